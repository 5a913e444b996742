/-! the texts at the law's entry -/
def st_tm (i : Nat) : Term := .string "LookAtClock" (mjtexts.getD i (0, "", [])).1
theorem st_t0 : ∀ i : Nat, i < 5 → mjlens.getD i 0 < 2 ^ 31 := by decide +kernel
theorem st_t1 : ∀ i : Nat, i < 5 → Cond.exactly (st_tm i) "java/lang/String" ∈ flatC (Jvm.Cond.and given_1 narrow_1) := by decide +kernel
theorem st_t2 : ∀ i : Nat, i < 5 → Cond.eq (.field (st_tm i) "java/lang/String" "coder" "B") (.int 0) ∈ flatC (Jvm.Cond.and given_1 narrow_1) := by decide +kernel
theorem st_t3 : ∀ i : Nat, i < 5 → Cond.arrayOf (.field (st_tm i) "java/lang/String" "value" "[B") .byte ∈ flatC (Jvm.Cond.and given_1 narrow_1) := by decide +kernel
theorem st_t4 : ∀ i : Nat, i < 5 → Cond.eq (.length (.field (st_tm i) "java/lang/String" "value" "[B")) (.int (Int32.ofNat (mjlens.getD i 0))) ∈ flatC (Jvm.Cond.and given_1 narrow_1) := by decide +kernel
theorem st_t5 : ∀ i : Nat, i < 5 → ∀ j : Nat, j < mjlens.getD i 0 → Cond.eq (.elem (.field (st_tm i) "java/lang/String" "value" "[B") (.int (Int32.ofNat j))) (.int ((mjbyts.getD i []).getD j 0)) ∈ flatC (Jvm.Cond.and given_1 narrow_1) := by decide +kernel
theorem st_t6 : ∀ i : Nat, i < 5 → ∀ j : Nat, j < 5 → i ≠ j → Cond.not (Cond.eq (st_tm i) (st_tm j)) ∈ flatC (Jvm.Cond.and given_1 narrow_1) ∨ Cond.not (Cond.eq (st_tm j) (st_tm i)) ∈ flatC (Jvm.Cond.and given_1 narrow_1) := by decide +kernel
theorem st_t7 : ∀ i : Nat, i < 5 → Cond.stringRef "LookAtClock" (mjtexts.getD i (0, "", [])).1 (mjtexts.getD i (0, "", [])).2.1 ∈ lw_tbl := by decide +kernel
theorem st_t8 : ∀ q ∈ mjxs, Cond.stringRef q.1 q.2.1 q.2.2 ∈ lw_tbl := by decide +kernel
theorem st_t9 : ∀ q ∈ mjxs, Cond.exactly (.string q.1 q.2.1) "java/lang/String" ∈ flatC (Jvm.Cond.and given_1 narrow_1) := by decide +kernel
theorem st_tx {s : State} {b : Nat} (hts : ∀ w ∈ lw_tbl, w.before #[Value.ref b] s = true) (hgv : (Jvm.Cond.and given_1 narrow_1).before #[Value.ref b] s = true) : ∃ adK adV : Nat → Nat, vk_S 5 mjlens mjbyts adK adV (fun q => s.heap.size ≤ q) s s.heap ∧ ∀ i : Nat, i < 5 → vk_R "LookAtClock" (mjtexts.getD i (0, "", [])).1 (mjtexts.getD i (0, "", [])).2.1 (adK i) s := by
  have hs := flat_of_before _ hgv
  obtain ⟨adK, adV, h1, h2⟩ := vk_Sof (args := #[Value.ref b]) (s := s) (N := 5) (tm := st_tm) (len := mjlens) (byt := mjbyts) (A := fun q => s.heap.size ≤ q) st_t0 (fun i hi => hs _ (st_t1 i hi)) (fun i hi => hs _ (st_t2 i hi)) (fun i hi => hs _ (st_t3 i hi)) (fun i hi => hs _ (st_t4 i hi)) (fun i hi j hj => hs _ (st_t5 i hi j hj)) (fun i j hi hj hn => (st_t6 i hi j hj hn).imp (fun h => hs _ h) (fun h => hs _ h)) (fun a h1 h2 => by omega)
  exact ⟨adK, adV, h1, fun i hi => vk_R.of (hts _ (st_t7 i hi)) (h2 i hi)⟩
theorem st_xs {s : State} {b : Nat} (hts : ∀ w ∈ lw_tbl, w.before #[Value.ref b] s = true) (hgv : (Jvm.Cond.and given_1 narrow_1).before #[Value.ref b] s = true) : ∀ q ∈ mjxs, ∃ sa, vk_R q.1 q.2.1 q.2.2 sa s := fun q hq => by
  have hs := flat_of_before _ hgv
  obtain ⟨a, c, cA, kA, q1, -⟩ := Cond.exactly_spec (args := #[Value.ref b]) (first := s) (o := none) (s := s) (idx := []) (t := .string q.1 q.2.1) (cls := "java/lang/String") (hs _ (st_t9 q hq))
  exact ⟨a, vk_R.of (hts _ (st_t8 q hq)) q1⟩
theorem st_Sc {N : Nat} {len : List Nat} {byt : List (List Int32)} {adK adV aK aV : Nat → Nat} {A : Nat → Prop} {U : State} {H : Heap} (h : vk_S N len byt adK adV A U H) (hk : ∀ i : Nat, i < N → aK i = adK i) (hv : ∀ i : Nat, i < N → aV i = adV i) : vk_S N len byt aK aV A U H :=
  ⟨fun i hi => by rw [hk i hi, hv i hi]; exact h.1 i hi, fun i j hi hj e => h.2 i j hi hj (by rw [← hk i hi, ← hk j hj]; exact e)⟩
/-- where the texts and the script lie -/
def st_S (adK adV : Nat → Nat) (b k : Nat) : Nat := if k = 2000000 then b else if 1100000 ≤ k then adV (k - 1100000) else adK (k - 1000000)
theorem st_S0 {adK adV : Nat → Nat} {b : Nat} : st_S adK adV b 2000000 = b := if_pos rfl
theorem st_SK {adK adV : Nat → Nat} {b i : Nat} (hi : i < 5) : st_S adK adV b (1000000 + i) = adK i := by
  unfold st_S
  rw [if_neg (by omega), if_neg (by omega), Nat.add_sub_cancel_left]
theorem st_SV {adK adV : Nat → Nat} {b i : Nat} (hi : i < 5) : st_S adK adV b (1100000 + i) = adV i := by
  unfold st_S
  rw [if_neg (by omega), if_pos (by omega), Nat.add_sub_cancel_left]
