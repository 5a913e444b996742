/-! order: the reference -/
theorem m_or_in2 {d nl m n : Nat} {D : Int32} {I : Nat → Nat → Int32} {X : MX} {r : MO × MH → Prop} (hn : nl ≤ 6) (hm : m < 64) (h44 : I 44 1 = nI nl) (g : ∀ b, oB (I 64) m nl b → mjGo d nyX12_order 107 ([some (.ref 43), some (.int D), some (.int (opw n)), some (.int (nI m)), some (.int (nI n)), some (.int (nI b)), some (.int (nI nl))], [], mjH I X) r) : ∀ (k j b : Nat), j + k = nl → oB (I 64) m j b →
    mjGo d nyX12_order 55 ([some (.ref 43), some (.int D), some (.int (opw n)), some (.int (nI m)), some (.int (nI n)), some (.int (nI b)), some (.int (nI j))], [], mjH I X) r := by
  intro k
  induction k with
  | zero =>
    intro j b hj hb
    have e : j = nl := by omega
    subst e
    refine mjGo.run 5 (pc' := 63) (F' := ([some (.ref 43), some (.int D), some (.int (opw n)), some (.int (nI m)), some (.int (nI n)), some (.int (nI b)), some (.int (nI j))], [.int (I 44 1), .int (nI j)], mjH I X)) (fun _ => rfl) ?_
    refine mjGo.run 1 (pc' := (bif decide ((I 44 1) ≤ (nI j)) then 107 else 66)) (F' := ([some (.ref 43), some (.int D), some (.int (opw n)), some (.int (nI m)), some (.int (nI n)), some (.int (nI b)), some (.int (nI j))], [], mjH I X)) (fun _ => rfl) ?_
    refine mjGo.brT (show (I 44 1) ≤ (nI j) by rw [h44, nI_leI (by omega) (by omega)]; omega) ?_
    show mjGo _ _ 107 _ _
    exact g b hb
  | succ k ih =>
    intro j b hj hb
    have hbj : b < j := hb.1
    refine mjGo.run 5 (pc' := 63) (F' := ([some (.ref 43), some (.int D), some (.int (opw n)), some (.int (nI m)), some (.int (nI n)), some (.int (nI b)), some (.int (nI j))], [.int (I 44 1), .int (nI j)], mjH I X)) (fun _ => rfl) ?_
    refine mjGo.run 1 (pc' := (bif decide ((I 44 1) ≤ (nI j)) then 107 else 66)) (F' := ([some (.ref 43), some (.int D), some (.int (opw n)), some (.int (nI m)), some (.int (nI n)), some (.int (nI b)), some (.int (nI j))], [], mjH I X)) (fun _ => rfl) ?_
    refine mjGo.brF (show ¬ (I 44 1) ≤ (nI j) by rw [h44, nI_leI (by omega) (by omega)]; omega) ?_
    show mjGo _ _ 66 _ _
    refine mjGo.run 6 (pc' := (bif decide ((((nI m) >>> ((nI j) &&& 31)) &&& 1) ≠ 0) then 101 else 75)) (F' := ([some (.ref 43), some (.int D), some (.int (opw n)), some (.int (nI m)), some (.int (nI n)), some (.int (nI b)), some (.int (nI j))], [], mjH I X)) (fun _ => rfl) ?_
    refine mjGo.br (fun q1 => ?_) (fun q1 => ?_)
    · show mjGo _ _ 101 _ _
      refine mjGo.run 2 (pc' := 55) (F' := ([some (.ref 43), some (.int D), some (.int (opw n)), some (.int (nI m)), some (.int (nI n)), some (.int (nI b)), some (.int ((nI j) + 1))], [], mjH I X)) (fun _ => rfl) ?_
      have k9 := ih (j + 1) b (by omega) (oB_keep hb (Or.inl ((bit_1 hm (by omega)).mp q1)))
      rw [← nI_1] at k9
      exact k9
    · show mjGo _ _ 75 _ _
      refine mjGo.run 1 (pc' := 77) (F' := ([some (.ref 43), some (.int D), some (.int (opw n)), some (.int (nI m)), some (.int (nI n)), some (.int (nI b)), some (.int (nI j))], [.int (nI b)], mjH I X)) (fun _ => rfl) ?_
      refine mjGo.run 1 (pc' := (bif decide ((nI b) < 0) then 97 else 80)) (F' := ([some (.ref 43), some (.int D), some (.int (opw n)), some (.int (nI m)), some (.int (nI n)), some (.int (nI b)), some (.int (nI j))], [], mjH I X)) (fun _ => rfl) ?_
      refine mjGo.brF (show ¬ (nI b) < 0 by rw [show (0 : Int32) = nI 0 from rfl, nI_ltI (by omega) (by omega)]; omega) ?_
      show mjGo _ _ 80 _ _
      refine mjGo.run 3 (pc' := 86) (F' := ([some (.ref 43), some (.int D), some (.int (opw n)), some (.int (nI m)), some (.int (nI n)), some (.int (nI b)), some (.int (nI j))], [.int (nI j), .ref 64], mjH I X)) (fun _ => rfl) ?_
      refine mjGo.op (pc' := 87) (F' := ([some (.ref 43), some (.int D), some (.int (opw n)), some (.int (nI m)), some (.int (nI n)), some (.int (nI b)), some (.int (nI j))], [.int (I 64 j)], mjH I X)) (o := mjiald 87) rfl (fun _ => mjald_n (n := 6) (by omega) (by decide) (rfl) (rfl)) ?_
      refine mjGo.run 3 (pc' := 93) (F' := ([some (.ref 43), some (.int D), some (.int (opw n)), some (.int (nI m)), some (.int (nI n)), some (.int (nI b)), some (.int (nI j))], [.int (nI b), .ref 64, .int (I 64 j)], mjH I X)) (fun _ => rfl) ?_
      refine mjGo.op (pc' := 94) (F' := ([some (.ref 43), some (.int D), some (.int (opw n)), some (.int (nI m)), some (.int (nI n)), some (.int (nI b)), some (.int (nI j))], [.int (I 64 b), .int (I 64 j)], mjH I X)) (o := mjiald 94) rfl (fun _ => mjald_n (n := 6) (by omega) (by decide) (rfl) (rfl)) ?_
      refine mjGo.run 1 (pc' := (bif decide ((I 64 b) ≤ (I 64 j)) then 101 else 97)) (F' := ([some (.ref 43), some (.int D), some (.int (opw n)), some (.int (nI m)), some (.int (nI n)), some (.int (nI b)), some (.int (nI j))], [], mjH I X)) (fun _ => rfl) ?_
      refine mjGo.br (fun q2 => ?_) (fun q2 => ?_)
      · show mjGo _ _ 101 _ _
        refine mjGo.run 2 (pc' := 55) (F' := ([some (.ref 43), some (.int D), some (.int (opw n)), some (.int (nI m)), some (.int (nI n)), some (.int (nI b)), some (.int ((nI j) + 1))], [], mjH I X)) (fun _ => rfl) ?_
        have k9 := ih (j + 1) b (by omega) (oB_keep hb (Or.inr q2))
        rw [← nI_1] at k9
        exact k9
      · show mjGo _ _ 97 _ _
        refine mjGo.run 4 (pc' := 55) (F' := ([some (.ref 43), some (.int D), some (.int (opw n)), some (.int (nI m)), some (.int (nI n)), some (.int (nI j)), some (.int ((nI j) + 1))], [], mjH I X)) (fun _ => rfl) ?_
        have k9 := ih (j + 1) j (by omega) (oB_take hb (Bool.eq_false_iff.mpr (fun w => q1 ((bit_1 hm (by omega)).mpr w))) q2)
        rw [← nI_1] at k9
        exact k9
theorem m_or_in1 {d nl m n : Nat} {D : Int32} {I : Nat → Nat → Int32} {X : MX} {r : MO × MH → Prop} (hn : nl ≤ 6) (hm : m < 64) (hT : ocn (fun i => m.testBit i) nl 0 < nl) (h44 : I 44 1 = nI nl) (g : ∀ b, oB (I 64) m nl b → mjGo d nyX12_order 107 ([some (.ref 43), some (.int D), some (.int (opw n)), some (.int (nI m)), some (.int (nI n)), some (.int (nI b)), some (.int (nI nl))], [], mjH I X) r) : ∀ (k j : Nat), j + k = nl → (∀ i, i < j → m.testBit i = true) →
    mjGo d nyX12_order 55 ([some (.ref 43), some (.int D), some (.int (opw n)), some (.int (nI m)), some (.int (nI n)), some (.int (-1)), some (.int (nI j))], [], mjH I X) r := by
  intro k
  induction k with
  | zero =>
    intro j hj hb
    exfalso
    have e : ocn (fun i => m.testBit i) nl 0 = nl := by
      rw [ocn_cg (q := fun _ => true) nl 0 (fun i _ h => hb i (by omega))]
      have key : ∀ k j, ocn (fun _ => true) k j = k := by
        intro k
        induction k with
        | zero => intro j; rfl
        | succ k ih => intro j; rw [ocn, ih, if_pos rfl]; omega
      exact key nl 0
    omega
  | succ k ih =>
    intro j hj hb
    refine mjGo.run 5 (pc' := 63) (F' := ([some (.ref 43), some (.int D), some (.int (opw n)), some (.int (nI m)), some (.int (nI n)), some (.int (-1)), some (.int (nI j))], [.int (I 44 1), .int (nI j)], mjH I X)) (fun _ => rfl) ?_
    refine mjGo.run 1 (pc' := (bif decide ((I 44 1) ≤ (nI j)) then 107 else 66)) (F' := ([some (.ref 43), some (.int D), some (.int (opw n)), some (.int (nI m)), some (.int (nI n)), some (.int (-1)), some (.int (nI j))], [], mjH I X)) (fun _ => rfl) ?_
    refine mjGo.brF (show ¬ (I 44 1) ≤ (nI j) by rw [h44, nI_leI (by omega) (by omega)]; omega) ?_
    show mjGo _ _ 66 _ _
    refine mjGo.run 6 (pc' := (bif decide ((((nI m) >>> ((nI j) &&& 31)) &&& 1) ≠ 0) then 101 else 75)) (F' := ([some (.ref 43), some (.int D), some (.int (opw n)), some (.int (nI m)), some (.int (nI n)), some (.int (-1)), some (.int (nI j))], [], mjH I X)) (fun _ => rfl) ?_
    refine mjGo.br (fun q1 => ?_) (fun q1 => ?_)
    · show mjGo _ _ 101 _ _
      refine mjGo.run 2 (pc' := 55) (F' := ([some (.ref 43), some (.int D), some (.int (opw n)), some (.int (nI m)), some (.int (nI n)), some (.int (-1)), some (.int ((nI j) + 1))], [], mjH I X)) (fun _ => rfl) ?_
      have k9 := ih (j + 1) (by omega) (fun i hi => by
        by_cases e : i = j
        · rw [e]
          exact (bit_1 hm (by omega)).mp q1
        · exact hb i (by omega))
      rw [← nI_1] at k9
      exact k9
    · show mjGo _ _ 75 _ _
      refine mjGo.run 6 (pc' := 55) (F' := ([some (.ref 43), some (.int D), some (.int (opw n)), some (.int (nI m)), some (.int (nI n)), some (.int (nI j)), some (.int ((nI j) + 1))], [], mjH I X)) (fun _ => rfl) ?_
      have k9 := m_or_in2 (d := d) (n := n) (D := D) (X := X) hn hm h44 g k (j + 1) j (by omega) (oB_new hb (Bool.eq_false_iff.mpr (fun w => q1 ((bit_1 hm (by omega)).mpr w))))
      rw [← nI_1] at k9
      exact k9
theorem m_or_out {d nl : Nat} {I : Nat → Nat → Int32} {X : MX} (hn : nl ≤ 6) (h44 : I 44 1 = nI nl) : ∀ (k n m : Nat) (D : Int32) (o5 o6 : Option Value), n + k = nl → oI (I 64) nl m n D →
    mjGo d nyX12_order 38 ([some (.ref 43), some (.int D), some (.int (opw n)), some (.int (nI m)), some (.int (nI n)), o5, o6], [], mjH I X) (fun x => x = (.inl (some (.int (ordV (I 64) nl))), mjH I X)) := by
  intro k
  induction k with
  | zero =>
    intro n m D o5 o6 hk h
    have e : n = nl := by omega
    subst e
    rw [← oI_end h]
    refine mjGo.run 5 (pc' := 46) (F' := ([some (.ref 43), some (.int D), some (.int (opw n)), some (.int (nI m)), some (.int (nI n)), o5, o6], [.int (I 44 1), .int (nI n)], mjH I X)) (fun _ => rfl) ?_
    refine mjGo.run 1 (pc' := (bif decide ((I 44 1) ≤ (nI n)) then 132 else 49)) (F' := ([some (.ref 43), some (.int D), some (.int (opw n)), some (.int (nI m)), some (.int (nI n)), o5, o6], [], mjH I X)) (fun _ => rfl) ?_
    refine mjGo.brT (show (I 44 1) ≤ (nI n) by rw [h44, nI_leI (by omega) (by omega)]; omega) ?_
    show mjGo _ _ 132 _ _
    exact mjGo.ret 2 (fun _ => rfl) rfl
  | succ k ih =>
    intro n m D o5 o6 hk h
    have hm : m < 64 := h.1
    have hT : ocn (fun i => m.testBit i) nl 0 < nl := by rw [h.2.1]; omega
    refine mjGo.run 5 (pc' := 46) (F' := ([some (.ref 43), some (.int D), some (.int (opw n)), some (.int (nI m)), some (.int (nI n)), o5, o6], [.int (I 44 1), .int (nI n)], mjH I X)) (fun _ => rfl) ?_
    refine mjGo.run 1 (pc' := (bif decide ((I 44 1) ≤ (nI n)) then 132 else 49)) (F' := ([some (.ref 43), some (.int D), some (.int (opw n)), some (.int (nI m)), some (.int (nI n)), o5, o6], [], mjH I X)) (fun _ => rfl) ?_
    refine mjGo.brF (show ¬ (I 44 1) ≤ (nI n) by rw [h44, nI_leI (by omega) (by omega)]; omega) ?_
    show mjGo _ _ 49 _ _
    refine mjGo.run 4 (pc' := 55) (F' := ([some (.ref 43), some (.int D), some (.int (opw n)), some (.int (nI m)), some (.int (nI n)), some (.int (-1)), some (.int 0)], [], mjH I X)) (fun _ => rfl) ?_
    refine m_or_in1 (d := d) (n := n) (D := D) (X := X) hn hm hT h44 (fun b hb => ?_) nl 0 (by omega) (fun i hi => absurd hi (Nat.not_lt_zero _))
    have hb6 : b < 6 := Nat.lt_of_lt_of_le hb.1 hn
    refine mjGo.run 18 (pc' := 38) (F' := ([some (.ref 43), some (.int (D + ((nI b) * (opw n)))), some (.int ((opw n) * 10)), some (.int ((nI m) ||| (1 <<< ((nI b) &&& 31)))), some (.int ((nI n) + 1)), some (.int (nI b)), some (.int (nI nl))], [], mjH I X)) (fun _ => rfl) ?_
    have k9 := ih (n + 1) (m ||| 2 ^ b) (D + nI b * opw n) (some (.int (nI b))) (some (.int (nI nl))) (by omega) (oI_s hn h hb)
    rw [← nI_1, ← (bit_2 hm hb6).1] at k9
    exact k9
theorem m_oc_loop {d np n9 nl lw : Nat} {I0 : Nat → Nat → Int32} {X : MX} (hn : nl ≤ 6) (h440 : I0 44 1 = nI nl) (hb0 : ∀ i, i < nl → ∃ kd wn, MB I0 i kd wn np n9 nl lw) : ∀ (k j : Nat) (I : Nat → Nat → Int32), j + k = nl → eqN 75 I0 I → (∀ k2 j2, 75 ≤ k2 → I k2 j2 = I0 k2 j2) → (∀ i, i < j → I 64 i = cst I0 np n9 i) →
    mjGo (d + 5) nyX12_order 2 ([some (.ref 43), some (.int (nI j)), none, none, none, none, none], [], mjH I X) (fun x => ∃ J, x = (.inl (some (.int (ordV (cst I0 np n9) nl))), mjH J X) ∧ eqN 75 I0 J ∧ (∀ k2 j2, 75 ≤ k2 → J k2 j2 = I0 k2 j2)) := by
  intro k
  induction k with
  | zero =>
    intro j I hj heq hhi hc
    have e : j = nl := by omega
    subst e
    have h44 : I 44 1 = nI j := (heq 44 1 rfl (by omega)).trans h440
    refine mjGo.run 5 (pc' := 9) (F' := ([some (.ref 43), some (.int (nI j)), none, none, none, none, none], [.int (I 44 1), .int (nI j)], mjH I X)) (fun _ => rfl) ?_
    refine mjGo.run 1 (pc' := (bif decide ((I 44 1) ≤ (nI j)) then 29 else 12)) (F' := ([some (.ref 43), some (.int (nI j)), none, none, none, none, none], [], mjH I X)) (fun _ => rfl) ?_
    refine mjGo.brT (show (I 44 1) ≤ (nI j) by rw [h44, nI_leI (by omega) (by omega)]; omega) ?_
    show mjGo _ _ 29 _ _
    refine mjGo.run 8 (pc' := 38) (F' := ([some (.ref 43), some (.int 0), some (.int 1), some (.int 0), some (.int 0), none, none], [], mjH I X)) (fun _ => rfl) ?_
    obtain ⟨n, x, hx, rfl⟩ := m_or_out (d := d + 5) (X := X) hn h44 j 0 0 0 none none (by omega) oI_0
    rw [ordV_cg (fun i hi => hc i hi)] at hx
    exact ⟨n, _, hx, I, rfl, heq, hhi⟩
  | succ k ih =>
    intro j I hj heq hhi hc
    have h44 : I 44 1 = nI nl := (heq 44 1 rfl (by omega)).trans h440
    obtain ⟨kd, wn, hb⟩ := hb0 j (by omega)
    obtain ⟨hb2, e49, e50, eD⟩ := hb.eq (n := 75) heq (by omega)
    refine mjGo.run 5 (pc' := 9) (F' := ([some (.ref 43), some (.int (nI j)), none, none, none, none, none], [.int (I 44 1), .int (nI j)], mjH I X)) (fun _ => rfl) ?_
    refine mjGo.run 1 (pc' := (bif decide ((I 44 1) ≤ (nI j)) then 29 else 12)) (F' := ([some (.ref 43), some (.int (nI j)), none, none, none, none, none], [], mjH I X)) (fun _ => rfl) ?_
    refine mjGo.brF (show ¬ (I 44 1) ≤ (nI j) by rw [h44, nI_leI (by omega) (by omega)]; omega) ?_
    show mjGo _ _ 12 _ _
    refine mjGo.run 5 (pc' := 19) (F' := ([some (.ref 43), some (.int (nI j)), none, none, none, none, none], [.int (nI j), .ref 43, .int (nI j), .ref 64], mjH I X)) (fun _ => rfl) ?_
    obtain ⟨o9, h9, hev, J, rfl, heJ, hdJ, rfl⟩ := c_mDayOf d (X := X) hb2
    rw [cst_MB hb e49 e50 eD] at hev
    refine mjGo.call (n := 2) (j := 153) (nx := 22) (o := some (.int (cst I0 np n9 j))) (h' := mjH J X) (fun _ => rfl) (hev) ?_
    show mjGo _ _ 22 ([some (.ref 43), some (.int (nI j)), none, none, none, none, none], [.int (cst I0 np n9 j), .int (nI j), .ref 64], mjH J X) _
    refine mjGo.op (pc' := 23) (F' := ([some (.ref 43), some (.int (nI j)), none, none, none, none, none], [], mjH (mjU J 64 j (cst I0 np n9 j)) X)) (o := mjiast 23) rfl (fun _ => mjast_n (n := 6) (by omega) (by decide) (rfl) (rfl)) ?_
    refine mjGo.run 2 (pc' := 2) (F' := ([some (.ref 43), some (.int ((nI j) + 1)), none, none, none, none, none], [], mjH (mjU J 64 j (cst I0 np n9 j)) X)) (fun _ => rfl) ?_
    have hJ : eqN 75 I0 J := heq.trans (eqN.of heJ scd_scr) (Nat.le_refl _)
    have hlo : ∀ k2 j2, 75 ≤ k2 → scd k2 j2 = false := fun k2 j2 h2 => by
      cases w : scd k2 j2
      · rfl
      · have := scd_scr k2 j2 w
        rw [scr_hi h2] at this
        cases this
    have k9 := ih (j + 1) (mjU J 64 j (cst I0 np n9 j)) (by omega) (fun k2 q h1 h2 => by
      rw [mjU_ob (by rintro rfl; exact absurd h1 (by simp [scr]))]
      exact hJ k2 q h1 h2) (fun k2 j2 h2 => by
      rw [mjU_ob (by omega), heJ k2 j2 (hlo k2 j2 h2)]
      exact hhi k2 j2 h2) (fun i hi2 => by
      rw [mjU_k]
      by_cases w : i = j
      · rw [if_pos w, w]
      · rw [if_neg w, show J 64 i = I 64 i from heJ 64 i rfl]
        exact hc i (by omega))
    rw [← nI_1] at k9
    exact k9
theorem m_order (d : Nat) {np n9 nl lw : Nat} {I : Nat → Nat → Int32} {X : MX} (hn : nl ≤ 6) (h44 : I 44 1 = nI nl) (hb : ∀ i, i < nl → ∃ kd wn, MB I i kd wn np n9 nl lw) : mjEvP (d + 5) nyX12_order [.ref 43] (mjH I X) (fun o h2 => ∃ J, h2 = mjH J X ∧ (∀ n, eqN n I J) ∧ o = some (.int (ordV (cst I np n9) nl))) := by
  refine mjEvP.of ?_
  refine mjGo.run 2 (pc' := 2) (F' := ([some (.ref 43), some (.int (nI 0)), none, none, none, none, none], [], mjH I X)) (fun _ => rfl) ?_
  obtain ⟨n, x, hx, J, rfl, h1, h2⟩ := m_oc_loop (d := d) (X := X) hn h44 hb nl 0 I (by omega) eqN.rf (fun _ _ _ => rfl) (fun i hi => absurd hi (Nat.not_lt_zero _))
  refine ⟨n, _, hx, _, rfl, J, rfl, fun n k j q w => ?_, rfl⟩
  by_cases h : k < 75
  · exact h1 k j q h
  · exact h2 k j (by omega)
theorem k_order (d : Nat) : CALL (d + 12) nyX11_order nyX12_order [.ref 0] [.ref 43] := CALL.scr fun I X hR => by
  obtain ⟨np, n9, nl, lw, ho, ⟨hn, h16, h44⟩, ⟨hlw, h18, h443⟩, hlk⟩ := hR.lk
  obtain ⟨o, h9, hev, J, Y, rfl, hJ, hY, rfl⟩ := x_order (d + 4) (X := X) ho hn h16 hlw h18 h443 hlk
  refine ⟨_, ⟨J, Y, hev, hJ, xle_of hY, grw_of hY⟩, fun J Y hRJ e hx => ?_⟩
  have hb : ∀ i, i < nl → ∃ kd wn, MB J i kd wn np n9 nl lw := fun i hi => by
    obtain ⟨a, kd, wn, hl⟩ := hlk i hi
    have hb : MB I i kd wn np n9 nl lw := ⟨ho.2.2.2.2.2.2, hn, h44, hi, hl.2.2.2.2.2.2.2.2.1, hl.2.2.2.2.2.2.1, hl.2.2.2.2.2.2.2.1, h443⟩
    exact ⟨kd, wn, (hb.eq e (by omega)).1⟩
  obtain ⟨o, h9, hev, L, rfl, hL, rfl⟩ := m_order (d + 7) (X := Y) hn ((e 44 1 rfl (by omega)).trans h44) hb
  rw [cst_N e (by omega)] at hev
  exact ⟨L, hev, hL _⟩
