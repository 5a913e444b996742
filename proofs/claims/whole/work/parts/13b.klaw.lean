/-! calls that change: law -/
theorem c_takesLaw1 (d : Nat) {l : Nat} {I : Nat → Nat → Int32} {X : MX} (hl : l < 3) : mjEv d nyX10_takesLaw [.ref 1, .int (nI l)] (mjH I X) (.inl (some (.int 1))) (mjH (mjU I 1 8 (nI l)) X) := by
  refine mjEv.of ?_
  show mjGo d nyX10_takesLaw 0 ([some (.ref 1), some (.int (nI l))], [], mjH I X) _
  refine mjGo.run 2 (pc' := (bif decide ((nI l) < 0) then 9 else 4)) (F' := ([some (.ref 1), some (.int (nI l))], [], mjH I X)) (fun _ => rfl) ?_
  refine mjGo.br (fun q1 => ?_) (fun q1 => ?_)
  · show mjGo _ _ 9 _ _
    exact absurd q1 (nI_pos (by omega))
  · show mjGo _ _ 4 _ _
    refine mjGo.run 3 (pc' := (bif decide ((nI l) < 3) then 11 else 9)) (F' := ([some (.ref 1), some (.int (nI l))], [], mjH I X)) (fun _ => rfl) ?_
    refine mjGo.br (fun q2 => ?_) (fun q2 => ?_)
    · show mjGo _ _ 11 _ _
      exact mjGo.ret 5 (fun _ => rfl) rfl
    · show mjGo _ _ 9 _ _
      rw [show (3 : Int32) = nI 3 from rfl, nI_ltI (by omega) (by omega)] at q2
      exact absurd hl q2
theorem c_takesLaw0 (d : Nat) {q : Int32} {I : Nat → Nat → Int32} {X : MX} (h : mIn q 0 2 = 0) : mjEv d nyX10_takesLaw [.ref 1, .int q] (mjH I X) (.inl (some (.int 0))) (mjH I X) := by
  refine mjEv.of ?_
  show mjGo d nyX10_takesLaw 0 ([some (.ref 1), some (.int q)], [], mjH I X) _
  refine mjGo.run 2 (pc' := (bif decide (q < 0) then 9 else 4)) (F' := ([some (.ref 1), some (.int q)], [], mjH I X)) (fun _ => rfl) ?_
  refine mjGo.br (fun q1 => ?_) (fun q1 => ?_)
  · show mjGo _ _ 9 _ _
    exact mjGo.ret 2 (fun _ => rfl) rfl
  · show mjGo _ _ 4 _ _
    refine mjGo.run 3 (pc' := (bif decide (q < 3) then 11 else 9)) (F' := ([some (.ref 1), some (.int q)], [], mjH I X)) (fun _ => rfl) ?_
    refine mjGo.br (fun q2 => ?_) (fun q2 => ?_)
    · show mjGo _ _ 11 _ _
      exfalso
      unfold mIn at h
      have e3 : (3 : Int32).toInt = 3 := by decide
      have e2 : (2 : Int32).toInt = 2 := by decide
      rw [if_neg q1, if_neg (by have q9 := q2; rw [i32_lt] at q9; rw [i32_lt]; omega)] at h
      exact absurd h (by decide)
    · show mjGo _ _ 9 _ _
      exact mjGo.ret 2 (fun _ => rfl) rfl
theorem c_xLaw1 (d : Nat) {l : Nat} {I : Nat → Nat → Int32} {X : MX} (hl : l < 3) : mjEv (d + 2) nyX11_law [.ref 0, .int (nI l)] (mjH I X) (.inl (some (.int (I 1 8)))) (mjH (mjU I 1 8 (nI l)) X) := by
  refine mjEv.of ?_
  show mjGo (d + 2) nyX11_law 0 ([some (.ref 0), some (.int (nI l)), none], [], mjH I X) _
  refine mjGo.run 7 (pc' := 13) (F' := ([some (.ref 0), some (.int (nI l)), some (.int (I 1 8))], [.int (nI l), .ref 1], mjH I X)) (fun _ => rfl) ?_
  refine mjGo.call (n := 2) (j := 73) (nx := 16) (o := some (.int 1)) (h' := mjH (mjU I 1 8 (nI l)) X) (fun _ => rfl) (c_takesLaw1 _ hl) ?_
  show mjGo _ _ 16 ([some (.ref 0), some (.int (nI l)), some (.int (I 1 8))], [.int 1], mjH (mjU I 1 8 (nI l)) X) _
  exact mjGo.ret 4 (fun _ => rfl) rfl
theorem c_xLaw0 (d : Nat) {q : Int32} {I : Nat → Nat → Int32} {X : MX} (h : mIn q 0 2 = 0) : mjEv (d + 2) nyX11_law [.ref 0, .int q] (mjH I X) (.inl (some (.int (-1)))) (mjH I X) := by
  refine mjEv.of ?_
  show mjGo (d + 2) nyX11_law 0 ([some (.ref 0), some (.int q), none], [], mjH I X) _
  refine mjGo.run 7 (pc' := 13) (F' := ([some (.ref 0), some (.int q), some (.int (I 1 8))], [.int q, .ref 1], mjH I X)) (fun _ => rfl) ?_
  refine mjGo.call (n := 2) (j := 73) (nx := 16) (o := some (.int 0)) (h' := mjH I X) (fun _ => rfl) (c_takesLaw0 _ h) ?_
  show mjGo _ _ 16 ([some (.ref 0), some (.int q), some (.int (I 1 8))], [.int 0], mjH I X) _
  exact mjGo.ret 3 (fun _ => rfl) rfl
theorem c_mLaw1 (d : Nat) {l : Nat} {I : Nat → Nat → Int32} {X : MX} (hl : l < 3) : mjEv (d + 2) nyX12_law [.ref 43, .int (nI l)] (mjH I X) (.inl (some (.int (I 44 3)))) (mjH (mjU I 44 3 (nI l)) X) := by
  have h : mIn (nI l) 0 2 = 1 := mIn_yes (n := 3) hl (by omega)
  refine mjEv.of ?_
  show mjGo (d + 2) nyX12_law 0 ([some (.ref 43), some (.int (nI l)), none], [], mjH I X) _
  refine mjGo.run 3 (pc' := 3) (F' := ([some (.ref 43), some (.int (nI l)), none], [.int 2, .int 0, .int (nI l)], mjH I X)) (fun _ => rfl) ?_
  refine mjGo.call (n := 3) (j := 132) (nx := 6) (o := some (.int 1)) (h' := mjH I X) (fun _ => rfl) ((by have q := c_mIn (d + 1) (nI l) 0 2 (mjH I X); rw [h] at q; exact q)) ?_
  show mjGo _ _ 6 ([some (.ref 43), some (.int (nI l)), none], [.int 1], mjH I X) _
  exact mjGo.ret 13 (fun _ => rfl) rfl
theorem c_mLaw0 (d : Nat) {q : Int32} {I : Nat → Nat → Int32} {X : MX} (h : mIn q 0 2 = 0) : mjEv (d + 2) nyX12_law [.ref 43, .int q] (mjH I X) (.inl (some (.int (-1)))) (mjH I X) := by
  refine mjEv.of ?_
  show mjGo (d + 2) nyX12_law 0 ([some (.ref 43), some (.int q), none], [], mjH I X) _
  refine mjGo.run 3 (pc' := 3) (F' := ([some (.ref 43), some (.int q), none], [.int 2, .int 0, .int q], mjH I X)) (fun _ => rfl) ?_
  refine mjGo.call (n := 3) (j := 132) (nx := 6) (o := some (.int 0)) (h' := mjH I X) (fun _ => rfl) ((by have q9 := c_mIn (d + 1) q 0 2 (mjH I X); rw [h] at q9; exact q9)) ?_
  show mjGo _ _ 6 ([some (.ref 43), some (.int q), none], [.int 0], mjH I X) _
  exact mjGo.ret 3 (fun _ => rfl) rfl
theorem k_law (d : Nat) (q : Int32) : CALL (d + 12) nyX11_law nyX12_law [.ref 0, .int q] [.ref 43, .int q] := fun I X hR _ => by
  rcases q_cases 2 (by omega) q with ⟨l, hl, rfl, e⟩ | ⟨e, hj⟩
  · obtain ⟨lw, hlw, h18, h44⟩ := tR_law hR
    refine ⟨_, _, X, c_xLaw1 (d + 10) (by omega), _, X, ?_, law_RI hR (show l < 3 by omega), grw.rf⟩
    have q := c_mLaw1 (d + 10) (I := mjU I 1 8 (nI l)) (X := X) (show l < 3 by omega)
    rw [show mjU I 1 8 (nI l) 44 3 = I 1 8 from h44.trans h18.symm] at q
    exact q
  · exact ⟨_, _, X, c_xLaw0 (d + 10) e, _, X, c_mLaw0 (d + 10) e, hR, grw.rf⟩
