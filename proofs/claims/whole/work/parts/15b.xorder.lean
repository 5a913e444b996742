/-! order: the class -/
theorem x_wt_loop {d i nl : Nat} {I : Nat → Nat → Int32} {X : MX} (hn : nl ≤ 6) (hi : i < nl) (h16 : I 1 6 = nI nl) : ∀ (k j a : Nat), j + k = nl →
    mjGo d nyX11_weightOf 4 ([some (.ref 0), some (.int (nI i)), some (.int (opw a)), some (.int (nI j))], [], mjH I X) (fun x => x = (.inl (some (.int (opw (a + ocn (fun j => olt (I 23) j i) k j)))), mjH I X)) := by
  intro k
  induction k with
  | zero =>
    intro j a hj
    by_cases h6 : j = 6
    · refine mjGo.run 2 (pc' := 7) (F' := ([some (.ref 0), some (.int (nI i)), some (.int (opw a)), some (.int (nI j))], [.int 6, .int (nI j)], mjH I X)) (fun _ => rfl) ?_
      refine mjGo.run 1 (pc' := (bif decide (6 ≤ (nI j)) then 67 else 10)) (F' := ([some (.ref 0), some (.int (nI i)), some (.int (opw a)), some (.int (nI j))], [], mjH I X)) (fun _ => rfl) ?_
      refine mjGo.brT (show 6 ≤ (nI j) by rw [show (6 : Int32) = nI 6 from rfl, nI_leI (by omega) (by omega)]; omega) ?_
      show mjGo _ _ 67 _ _
      exact mjGo.ret 2 (fun _ => rfl) rfl
    · refine mjGo.run 2 (pc' := 7) (F' := ([some (.ref 0), some (.int (nI i)), some (.int (opw a)), some (.int (nI j))], [.int 6, .int (nI j)], mjH I X)) (fun _ => rfl) ?_
      refine mjGo.run 1 (pc' := (bif decide (6 ≤ (nI j)) then 67 else 10)) (F' := ([some (.ref 0), some (.int (nI i)), some (.int (opw a)), some (.int (nI j))], [], mjH I X)) (fun _ => rfl) ?_
      refine mjGo.brF (show ¬ 6 ≤ (nI j) by rw [show (6 : Int32) = nI 6 from rfl, nI_leI (by omega) (by omega)]; omega) ?_
      show mjGo _ _ 10 _ _
      refine mjGo.run 4 (pc' := 18) (F' := ([some (.ref 0), some (.int (nI i)), some (.int (opw a)), some (.int (nI j))], [.int (I 1 6), .int (nI j)], mjH I X)) (fun _ => rfl) ?_
      refine mjGo.run 1 (pc' := (bif decide ((I 1 6) ≤ (nI j)) then 67 else 21)) (F' := ([some (.ref 0), some (.int (nI i)), some (.int (opw a)), some (.int (nI j))], [], mjH I X)) (fun _ => rfl) ?_
      refine mjGo.brT (show (I 1 6) ≤ (nI j) by rw [h16, nI_leI (by omega) (by omega)]; omega) ?_
      show mjGo _ _ 67 _ _
      exact mjGo.ret 2 (fun _ => rfl) rfl
  | succ k ih =>
    intro j a hj
    refine mjGo.run 2 (pc' := 7) (F' := ([some (.ref 0), some (.int (nI i)), some (.int (opw a)), some (.int (nI j))], [.int 6, .int (nI j)], mjH I X)) (fun _ => rfl) ?_
    refine mjGo.run 1 (pc' := (bif decide (6 ≤ (nI j)) then 67 else 10)) (F' := ([some (.ref 0), some (.int (nI i)), some (.int (opw a)), some (.int (nI j))], [], mjH I X)) (fun _ => rfl) ?_
    refine mjGo.brF (show ¬ 6 ≤ (nI j) by rw [show (6 : Int32) = nI 6 from rfl, nI_leI (by omega) (by omega)]; omega) ?_
    show mjGo _ _ 10 _ _
    refine mjGo.run 4 (pc' := 18) (F' := ([some (.ref 0), some (.int (nI i)), some (.int (opw a)), some (.int (nI j))], [.int (I 1 6), .int (nI j)], mjH I X)) (fun _ => rfl) ?_
    refine mjGo.run 1 (pc' := (bif decide ((I 1 6) ≤ (nI j)) then 67 else 21)) (F' := ([some (.ref 0), some (.int (nI i)), some (.int (opw a)), some (.int (nI j))], [], mjH I X)) (fun _ => rfl) ?_
    refine mjGo.brF (show ¬ (I 1 6) ≤ (nI j) by rw [h16, nI_leI (by omega) (by omega)]; omega) ?_
    show mjGo _ _ 21 _ _
    refine mjGo.run 3 (pc' := 26) (F' := ([some (.ref 0), some (.int (nI i)), some (.int (opw a)), some (.int (nI j))], [.int (nI j), .ref 23], mjH I X)) (fun _ => rfl) ?_
    refine mjGo.op (pc' := 27) (F' := ([some (.ref 0), some (.int (nI i)), some (.int (opw a)), some (.int (nI j))], [.int (I 23 j)], mjH I X)) (o := mjiald 27) rfl (fun _ => mjald_n (n := 6) (by omega) (by decide) (rfl) (rfl)) ?_
    refine mjGo.run 3 (pc' := 32) (F' := ([some (.ref 0), some (.int (nI i)), some (.int (opw a)), some (.int (nI j))], [.int (nI i), .ref 23, .int (I 23 j)], mjH I X)) (fun _ => rfl) ?_
    refine mjGo.op (pc' := 33) (F' := ([some (.ref 0), some (.int (nI i)), some (.int (opw a)), some (.int (nI j))], [.int (I 23 i), .int (I 23 j)], mjH I X)) (o := mjiald 33) rfl (fun _ => mjald_n (n := 6) (by omega) (by decide) (rfl) (rfl)) ?_
    refine mjGo.run 1 (pc' := (bif decide ((I 23 j) < (I 23 i)) then 56 else 36)) (F' := ([some (.ref 0), some (.int (nI i)), some (.int (opw a)), some (.int (nI j))], [], mjH I X)) (fun _ => rfl) ?_
    refine mjGo.br (fun q1 => ?_) (fun q1 => ?_)
    · show mjGo _ _ 56 _ _
      refine mjGo.run 6 (pc' := 4) (F' := ([some (.ref 0), some (.int (nI i)), some (.int ((opw a) * 10)), some (.int ((nI j) + 1))], [], mjH I X)) (fun _ => rfl) ?_
      have k9 := ih (j + 1) (a + 1) (by omega)
      rw [← nI_1] at k9
      rw [ocn, olt_1 q1, if_pos rfl, show a + (1 + ocn (fun j => olt (I 23) j i) k (j + 1)) = a + 1 + ocn (fun j => olt (I 23) j i) k (j + 1) by omega]
      exact k9
    · show mjGo _ _ 36 _ _
      refine mjGo.run 3 (pc' := 41) (F' := ([some (.ref 0), some (.int (nI i)), some (.int (opw a)), some (.int (nI j))], [.int (nI j), .ref 23], mjH I X)) (fun _ => rfl) ?_
      refine mjGo.op (pc' := 42) (F' := ([some (.ref 0), some (.int (nI i)), some (.int (opw a)), some (.int (nI j))], [.int (I 23 j)], mjH I X)) (o := mjiald 42) rfl (fun _ => mjald_n (n := 6) (by omega) (by decide) (rfl) (rfl)) ?_
      refine mjGo.run 3 (pc' := 47) (F' := ([some (.ref 0), some (.int (nI i)), some (.int (opw a)), some (.int (nI j))], [.int (nI i), .ref 23, .int (I 23 j)], mjH I X)) (fun _ => rfl) ?_
      refine mjGo.op (pc' := 48) (F' := ([some (.ref 0), some (.int (nI i)), some (.int (opw a)), some (.int (nI j))], [.int (I 23 i), .int (I 23 j)], mjH I X)) (o := mjiald 48) rfl (fun _ => mjald_n (n := 6) (by omega) (by decide) (rfl) (rfl)) ?_
      refine mjGo.run 1 (pc' := (bif decide ((I 23 j) ≠ (I 23 i)) then 61 else 51)) (F' := ([some (.ref 0), some (.int (nI i)), some (.int (opw a)), some (.int (nI j))], [], mjH I X)) (fun _ => rfl) ?_
      refine mjGo.br (fun q2 => ?_) (fun q2 => ?_)
      · show mjGo _ _ 61 _ _
        refine mjGo.run 2 (pc' := 4) (F' := ([some (.ref 0), some (.int (nI i)), some (.int (opw a)), some (.int ((nI j) + 1))], [], mjH I X)) (fun _ => rfl) ?_
        have k9 := ih (j + 1) a (by omega)
        rw [← nI_1] at k9
        rw [ocn, olt_2 q1 q2, if_neg (by decide), Nat.zero_add]
        exact k9
      · show mjGo _ _ 51 _ _
        refine mjGo.run 3 (pc' := (bif decide ((nI i) ≤ (nI j)) then 61 else 56)) (F' := ([some (.ref 0), some (.int (nI i)), some (.int (opw a)), some (.int (nI j))], [], mjH I X)) (fun _ => rfl) ?_
        refine mjGo.br (fun q3 => ?_) (fun q3 => ?_)
        · show mjGo _ _ 61 _ _
          refine mjGo.run 2 (pc' := 4) (F' := ([some (.ref 0), some (.int (nI i)), some (.int (opw a)), some (.int ((nI j) + 1))], [], mjH I X)) (fun _ => rfl) ?_
          have k9 := ih (j + 1) a (by omega)
          rw [← nI_1] at k9
          rw [ocn, olt_4 q1 ((nI_leI (by omega) (by omega)).mp q3), if_neg (by decide), Nat.zero_add]
          exact k9
        · show mjGo _ _ 56 _ _
          refine mjGo.run 6 (pc' := 4) (F' := ([some (.ref 0), some (.int (nI i)), some (.int ((opw a) * 10)), some (.int ((nI j) + 1))], [], mjH I X)) (fun _ => rfl) ?_
          have k9 := ih (j + 1) (a + 1) (by omega)
          rw [← nI_1] at k9
          rw [ocn, olt_3 q2 (Nat.not_le.mp (fun w => q3 ((nI_leI (by omega) (by omega)).mpr w))), if_pos rfl, show a + (1 + ocn (fun j => olt (I 23) j i) k (j + 1)) = a + 1 + ocn (fun j => olt (I 23) j i) k (j + 1) by omega]
          exact k9
theorem c_xWt (d : Nat) {i nl : Nat} {I : Nat → Nat → Int32} {X : MX} (hn : nl ≤ 6) (hi : i < nl) (h16 : I 1 6 = nI nl) : mjEv d nyX11_weightOf [.ref 0, .int (nI i)] (mjH I X) (.inl (some (.int (opw (ork (I 23) nl i))))) (mjH I X) := by
  refine mjEv.of ?_
  refine mjGo.run 4 (pc' := 4) (F' := ([some (.ref 0), some (.int (nI i)), some (.int (opw 0)), some (.int (nI 0))], [], mjH I X)) (fun _ => rfl) ?_
  have q := x_wt_loop (d := d) (X := X) hn hi h16 nl 0 0 (by omega)
  rw [Nat.zero_add] at q
  exact q
theorem x_or_loop {d nl : Nat} {I : Nat → Nat → Int32} {X : MX} (hn : nl ≤ 6) (h16 : I 1 6 = nI nl) : ∀ (k j : Nat) (s : Int32), j + k = nl →
    mjGo (d + 1) nyX11_order 8 ([some (.ref 0), some (.int s), some (.int (nI j))], [], mjH I X) (fun x => x = (.inl (some (.int (smV (fun i => nI i * opw (ork (I 23) nl i)) k j s))), mjH I X)) := by
  intro k
  induction k with
  | zero =>
    intro j s hj
    by_cases h6 : j = 6
    · refine mjGo.run 2 (pc' := 11) (F' := ([some (.ref 0), some (.int s), some (.int (nI j))], [.int 6, .int (nI j)], mjH I X)) (fun _ => rfl) ?_
      refine mjGo.run 1 (pc' := (bif decide (6 ≤ (nI j)) then 41 else 14)) (F' := ([some (.ref 0), some (.int s), some (.int (nI j))], [], mjH I X)) (fun _ => rfl) ?_
      refine mjGo.brT (show 6 ≤ (nI j) by rw [show (6 : Int32) = nI 6 from rfl, nI_leI (by omega) (by omega)]; omega) ?_
      show mjGo _ _ 41 _ _
      exact mjGo.ret 2 (fun _ => rfl) rfl
    · refine mjGo.run 2 (pc' := 11) (F' := ([some (.ref 0), some (.int s), some (.int (nI j))], [.int 6, .int (nI j)], mjH I X)) (fun _ => rfl) ?_
      refine mjGo.run 1 (pc' := (bif decide (6 ≤ (nI j)) then 41 else 14)) (F' := ([some (.ref 0), some (.int s), some (.int (nI j))], [], mjH I X)) (fun _ => rfl) ?_
      refine mjGo.brF (show ¬ 6 ≤ (nI j) by rw [show (6 : Int32) = nI 6 from rfl, nI_leI (by omega) (by omega)]; omega) ?_
      show mjGo _ _ 14 _ _
      refine mjGo.run 4 (pc' := 22) (F' := ([some (.ref 0), some (.int s), some (.int (nI j))], [.int (I 1 6), .int (nI j)], mjH I X)) (fun _ => rfl) ?_
      refine mjGo.run 1 (pc' := (bif decide ((I 1 6) ≤ (nI j)) then 41 else 25)) (F' := ([some (.ref 0), some (.int s), some (.int (nI j))], [], mjH I X)) (fun _ => rfl) ?_
      refine mjGo.brT (show (I 1 6) ≤ (nI j) by rw [h16, nI_leI (by omega) (by omega)]; omega) ?_
      show mjGo _ _ 41 _ _
      exact mjGo.ret 2 (fun _ => rfl) rfl
  | succ k ih =>
    intro j s hj
    refine mjGo.run 2 (pc' := 11) (F' := ([some (.ref 0), some (.int s), some (.int (nI j))], [.int 6, .int (nI j)], mjH I X)) (fun _ => rfl) ?_
    refine mjGo.run 1 (pc' := (bif decide (6 ≤ (nI j)) then 41 else 14)) (F' := ([some (.ref 0), some (.int s), some (.int (nI j))], [], mjH I X)) (fun _ => rfl) ?_
    refine mjGo.brF (show ¬ 6 ≤ (nI j) by rw [show (6 : Int32) = nI 6 from rfl, nI_leI (by omega) (by omega)]; omega) ?_
    show mjGo _ _ 14 _ _
    refine mjGo.run 4 (pc' := 22) (F' := ([some (.ref 0), some (.int s), some (.int (nI j))], [.int (I 1 6), .int (nI j)], mjH I X)) (fun _ => rfl) ?_
    refine mjGo.run 1 (pc' := (bif decide ((I 1 6) ≤ (nI j)) then 41 else 25)) (F' := ([some (.ref 0), some (.int s), some (.int (nI j))], [], mjH I X)) (fun _ => rfl) ?_
    refine mjGo.brF (show ¬ (I 1 6) ≤ (nI j) by rw [h16, nI_leI (by omega) (by omega)]; omega) ?_
    show mjGo _ _ 25 _ _
    refine mjGo.run 4 (pc' := 29) (F' := ([some (.ref 0), some (.int s), some (.int (nI j))], [.int (nI j), .ref 0, .int (nI j), .int s], mjH I X)) (fun _ => rfl) ?_
    refine mjGo.call (n := 2) (j := 118) (nx := 32) (o := some (.int (opw (ork (I 23) nl j)))) (h' := mjH I X) (fun _ => rfl) (c_xWt _ (X := X) hn (show j < nl by omega) h16) ?_
    show mjGo _ _ 32 ([some (.ref 0), some (.int s), some (.int (nI j))], [.int (opw (ork (I 23) nl j)), .int (nI j), .int s], mjH I X) _
    refine mjGo.run 5 (pc' := 8) (F' := ([some (.ref 0), some (.int (s + ((nI j) * (opw (ork (I 23) nl j))))), some (.int ((nI j) + 1))], [], mjH I X)) (fun _ => rfl) ?_
    have k9 := ih (j + 1) (s + nI j * opw (ork (I 23) nl j)) (by omega)
    rw [← nI_1] at k9
    exact k9
theorem x_order (d : Nat) {np n9 nl lw : Nat} {I : Nat → Nat → Int32} {X : MX} (ho : xOk I np n9) (hn : nl ≤ 6) (h16 : I 1 6 = nI nl) (hlw : lw < 3) (h18 : I 1 8 = nI lw) (h443 : I 44 3 = nI lw) (hlk : ∀ i, i < nl → ∃ a kd wn, lkR I X 1 44 i a kd wn) : mjEvP (d + 8) nyX11_order [.ref 0] (mjH I X) (fun o h2 => ∃ J Y, h2 = mjH J Y ∧ eqN (X.2.2.2.1 + 75) I J ∧ (Y = X ∨ Y = mkX X) ∧ o = some (.int (ordV (cst I np n9) nl))) := by
  refine mjEvP.of ?_
  show mjGo (d + 8) nyX11_order 0 ([some (.ref 0), none, none], [], mjH I X) _
  refine mjGo.run 1 (pc' := 1) (F' := ([some (.ref 0), none, none], [.ref 0], mjH I X)) (fun _ => rfl) ?_
  obtain ⟨o9, h9, hev, rfl, J, Y, rfl, hJ, hY, hc⟩ := c_xCosts d (X := X) ho hn h16 hlw h18 h443 hlk
  refine mjGo.call (n := 1) (j := 116) (nx := 4) (o := none) (h' := mjH J Y) (fun _ => rfl) (hev) ?_
  show mjGo _ _ 4 ([some (.ref 0), none, none], [], mjH J Y) _
  refine mjGo.run 4 (pc' := 8) (F' := ([some (.ref 0), some (.int 0), some (.int 0)], [], mjH J Y)) (fun _ => rfl) ?_
  obtain ⟨n, x, hx, rfl⟩ := x_or_loop (d := d + 7) (X := Y) hn ((hJ 1 6 rfl (by omega)).trans h16) nl 0 0 (by omega)
  exact ⟨n, _, hx, _, rfl, J, Y, rfl, hJ, hY, congrArg (fun x => some (Value.int x)) (ordV_cg hc)⟩
