/-! the law, from its entry to its end -/
theorem law_all {K : MK} {l : Launch} (hl : l.stackTraces = false) {L : Nat} {xs : Nat → Int32} (hL : L ≤ 3072) : ∃ n h', mjXL (pL L xs (e1 K l) e2 (e3 K l)) n 14 0 ([some (.ref 2000000), none, none, none, none, none, none, none], [], cs0 xs L) = some (.inl (some (.int 1)), h') ∧ mjC h' ≤ 601024 ∧ mjS h' ≤ 7293034 := by
  have hm : ∀ pc, mjMn (pL L xs (e1 K l) e2 (e3 K l) pc) := mnL e1_mn e2_mn e3_mn
  have g : mjGoL (pL L xs (e1 K l) e2 (e3 K l)) 14 0 ([some (.ref 2000000), none, none, none, none, none, none, none], [], cs0 xs L) (fun x => x.1 = .inl (some (.int 1)) ∧ mjC x.2 ≤ 601024 ∧ mjS x.2 ≤ 7293034) := by
    refine law_cons hm 12 ?_
    rw [cs_eq]
    exact law_loop hL hm (e3_tos hl) (e1_elm hl) 1 (L / 6) 0 _ _ none (by omega) cs_RI ⟨Nat.le_refl _, Nat.le_refl _, Nat.le_refl _⟩
  obtain ⟨n, ⟨x1, x2⟩, hn, h1, h2, h3⟩ := g
  have h1 : x1 = .inl (some (.int 1)) := h1
  subst h1
  exact ⟨n, x2, hn, h2, h3⟩
theorem law_W {p : Program} {e : Env} {s : State} {m : MethodId} {below : List Frame} {meth : Method} {c : Code} (l : Launch) (hl : l.stackTraces = false) {K : MK} {b L : Nat} {xs : Nat → Int32} (hL : L ≤ 3072) (hK : K.2.2.2.2.2 = (L, xs)) (hA : ∀ q, mkA K q → s.heap.size ≤ q) (hS0 : mkS K 2000000 = b) (hen : mjEn K s s.heap) (C0 : lw_At p s m meth c b L xs) : W p l e room_1 s m #[Value.ref b] below meth c s.heap [] 0 0 (lw_Z below #[Value.ref b] s) (entryFrame m ([Value.ref b] : List Value).toArray 8) := by
  obtain ⟨hx, hb, hr, hml, hown, hts, hX, hbl, hlk, hgv⟩ := C0
  subst hS0
  have cx : mjCx K mjGA (mjyn meth) "LookAtClockLaw" code 8 (some .boolean) 14 p room_1 s m #[Value.ref (mkS K 2000000)] meth c := ⟨hx, hb, hml, hr, fun w hw => (List.mem_cons.mp hw).elim (fun e => by rw [e]; rfl) (fun e => hts w (in_mjGA w e)), hown, hlk, rfl, hen, by decide, by decide⟩
  obtain ⟨n, h', hn, hc, hs⟩ := law_all (K := K) (l := l) hl (xs := xs) hL
  obtain ⟨ls, ee, hFr⟩ := mjx_fr (K := K) (ad := mkS K) (h := cs0 xs L) (as := [.ref 2000000]) (nL := 8) m hen.cat (fun v hv => by rw [List.mem_singleton.mp hv]; exact Or.inr (by decide)) (by simp) (fun v hv => by rw [List.mem_singleton.mp hv]; rfl)
  have hK1 : K.2.2.2.2.2.1 = L := congrArg Prod.fst hK
  have hK2 : K.2.2.2.2.2.2 = xs := congrArg Prod.snd hK
  have hW0 : mjWd K (mkS K) (cs0 xs L) s.heap := by
    refine ⟨fun k q hq => ?_, ?_, fun k j n hn => (by cases hn), Nat.zero_le _, fun _ _ => rfl, ?_, ?_⟩
    · have hq : ([] : va_W)[k]? = some q := hq
      simp at hq
    · refine ⟨fun i j p q hi => ?_, fun k q hq => ?_⟩
      · have hi : ([] : va_W)[i]? = some p := hi
        simp at hi
      · have hq : ([] : va_W)[k]? = some q := hq
        simp at hq
    · rw [hK2]
      show (if (2000000 : Nat) = 2000000 then xs else fun _ => 0) = xs
      rw [if_pos rfl]
    · rw [hK1]
      show (if (2000000 : Nat) = 2000000 then ((13, L) : Nat × Nat) else (0, 0)).2 = L
      rw [if_pos rfl]
  refine (congrArg (fun g => W p l e room_1 s m #[Value.ref (mkS K 2000000)] below meth c s.heap [] 0 0 (lw_Z below #[Value.ref (mkS K 2000000)] s) g) ee).mpr ?_
  refine (mj_simL (G := mjGA) mjGA_G (okL hK mjGA_good mjGA_L mjGA_lay e1_ok e2_ok e3_ok) n 0 _ _ h' hn).2 _ rfl p e room_1 s m _ below meth c cx _ 0 0 0 0 s.heap [] ls (mkS K) hW0 hFr va_S.rf rfl rfl (by show mjC h' ≤ 0 + 601024; omega) (by show mjS h' ≤ 0 + 7293034; omega) ?_
  intro ad' H' locs' ls' cells' slots' ins pc' he hW' hs' hS' g1 g2 hri hd
  have g1 : 0 + cells' = mjC h' := g1
  have g2 : 0 + slots' = mjS h' := g2
  rcases hri with ⟨ty, x, hr9, hn9, rfl, hx9⟩ | ⟨x, hr9, rfl, hx9⟩ | ⟨⟨n9, hr9⟩, rfl, hv⟩ | ⟨hr9, rfl, hx9⟩
  · refine W.widen (k := 601024) (n := 7293034) (by omega) (by omega) ?_
    refine va_forget (fun q hq => hA _ (hS'.2.2 q hq)) ?_
    cases hx9
    exact lw_ret hx hb hr hlk hd
  · cases hr9
  · cases hr9
  · cases hr9
