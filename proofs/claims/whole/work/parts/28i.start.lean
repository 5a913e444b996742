/-! the law's environment at its entry; the walk -/
theorem st_ty {s : State} {cI cL cR cJ : ClassId} (h0 : ArrOfT s cI .int ∧ va_RA s cI .int) (h1 : ArrOfT s cL (.object "LookAtClock$Looker") ∧ va_RA s cL (.object "LookAtClock$Looker")) (h2 : ArrOfT s cR (.object "LookAtClock$Row") ∧ va_RA s cR (.object "LookAtClock$Row")) (h3 : ArrOfT s cJ .long ∧ va_RA s cJ .long) : ∀ (k : Nat) (q : ClassId × FieldType), ([(cI, .int), (cL, .object "LookAtClock$Looker"), (cR, .object "LookAtClock$Row"), (cJ, .long)] : List (ClassId × FieldType))[k]? = some q → ArrOfT s q.1 q.2 ∧ va_RA s q.1 q.2 := by
  intro k q h
  match k, h with
  | 0, h => cases h; exact h0
  | 1, h => cases h; exact h1
  | 2, h => cases h; exact h2
  | 3, h => cases h; exact h3
  | n + 4, h => simp at h
theorem st_En {s : State} {b L : Nat} {xs : Nat → Int32} {D : va_G} {cI cL cR cJ : ClassId} {z : Value} {adK adV : Nat → Nat} (hts : ∀ w ∈ lw_tbl, w.before #[Value.ref b] s = true) (hgv : (Jvm.Cond.and given_1 narrow_1).before #[Value.ref b] s = true) (hX : va_X b L xs s s.heap) (hbl : b < s.heap.size)
    (hD : ∀ (c : Nat) (q : vw_C), vwCl[c]? = some q → u_Kn s q.1 q.2.1 q.2.2 (D.1 c) (D.2 c)) (h0 : ArrOfT s cI .int ∧ va_RA s cI .int) (h1 : ArrOfT s cL (.object "LookAtClock$Looker") ∧ va_RA s cL (.object "LookAtClock$Looker")) (h2 : ArrOfT s cR (.object "LookAtClock$Row") ∧ va_RA s cR (.object "LookAtClock$Row")) (h3 : ArrOfT s cJ .long ∧ va_RA s cJ .long)
    (t1 : vk_S 5 mjlens mjbyts adK adV (fun q => s.heap.size ≤ q) s s.heap) (t2 : ∀ i : Nat, i < 5 → vk_R "LookAtClock" (mjtexts.getD i (0, "", [])).1 (mjtexts.getD i (0, "", [])).2.1 (adK i) s)
    (z1 : va_Z "jdk/internal/util/Preconditions" "SIOOBE_FORMATTER" "Ljava/util/function/BiFunction;" z (fun q => s.heap.size ≤ q) s s.heap) (z2 : z = .null ∨ ∃ a, z = .ref a) :
    mjEn (D, (cI, cL, cR, cJ), fun q => s.heap.size ≤ q, z, st_S adK adV b, L, xs) s s.heap := by
  obtain ⟨n1, n2, n3⟩ := st_nc hgv
  obtain ⟨w1, w2, w3, w4⟩ := st_nw hts
  have hXc : mjXc (D, (cI, cL, cR, cJ), fun q => s.heap.size ≤ q, z, st_S adK adV b, L, xs) s s.heap := ⟨st_zq hts hgv, st_xs hts hgv, n1, n2, n3, w1, w2⟩
  have hSt : mjSt (D, (cI, cL, cR, cJ), fun q => s.heap.size ≤ q, z, st_S adK adV b, L, xs) s s.heap := by
    refine ⟨st_Sc t1 (fun i hi => st_SK hi) (fun i hi => st_SV hi), fun i hi => ?_, st_cs hts hgv, z1, z2, hXc⟩
    show vk_R "LookAtClock" (mjtexts.getD i (0, "", [])).1 (mjtexts.getD i (0, "", [])).2.1 (st_S adK adV b (1000000 + i)) s
    rw [st_SK hi]
    exact t2 i hi
  have hSc : mjSc (D, (cI, cL, cR, cJ), fun q => s.heap.size ≤ q, z, st_S adK adV b, L, xs) s s.heap := by
    show va_X (st_S adK adV b 2000000) L xs s s.heap ∧ st_S adK adV b 2000000 < s.heap.size ∧ ¬ (s.heap.size ≤ st_S adK adV b 2000000)
    rw [st_S0]
    exact ⟨hX, hbl, by omega⟩
  exact ⟨⟨hD, st_ty h0 h1 h2 h3⟩, w4, st_ao hts, w3, fun q h => h, hSt, hSc⟩
/-- from the entry, for every script of at most 3072 ints, the law comes to its end with true -/
theorem whole_start {p : Program} {e : Env} {s : State} {m : MethodId} {below : List Frame} {meth : Method} {c : Code} (l : Launch) (hflags : l.flags = flags0) {b L : Nat} {xs : Nat → Int32} (hL : L ≤ 3072) (C0 : lw_At p s m meth c b L xs) : W p l e room_1 s m #[Value.ref b] below meth c s.heap [] 0 0 (lw_Z below #[Value.ref b] s) (entryFrame m ([Value.ref b] : List Value).toArray 8) := by
  have C1 := C0
  obtain ⟨-, -, -, -, -, hts, hX, hbl, -, hgv⟩ := C1
  obtain ⟨D, hD⟩ := st_D hts
  obtain ⟨cI, h0⟩ := st_ai hts
  obtain ⟨cL, h1⟩ := st_ar (st_ao hts).1
  obtain ⟨cR, h2⟩ := st_ar (st_ao hts).2
  obtain ⟨cJ, h3⟩ := st_al hts
  obtain ⟨adK, adV, t1, t2⟩ := st_tx hts hgv
  obtain ⟨z, z1, z2⟩ := st_si hts hgv
  exact law_W (b := b) (L := L) (xs := xs) l (st_flags hflags) (K := (D, (cI, cL, cR, cJ), fun q => s.heap.size ≤ q, z, st_S adK adV b, L, xs)) hL rfl (fun q h => h) (st_S0 (adK := adK) (adV := adV) (b := b)) (st_En hts hgv hX hbl hD h0 h1 h2 h3 t1 t2 z1 z2) C0
