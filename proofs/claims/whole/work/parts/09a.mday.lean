/-! the reference: a day -/
theorem mPl_z (row : Nat → Int32) (m : Int32) : ∀ k, mPl row m k = 0 ∨ mPl row m k = 1
  | 0 => Or.inl rfl
  | k + 1 => by
    unfold mPl
    repeat' split
    all_goals first | exact Or.inl rfl | exact Or.inr rfl
theorem m_plan_loop {d n : Nat} {I : Nat → Nat → Int32} {X : MX} {m : Int32} (hn : I 44 2 = nI n) (h8 : n ≤ 8) : ∀ (fuel j : Nat), n < j + fuel → j ≤ n → mjGo d nyX12_isPlanned 4 ([some (.ref 43), some (.int m), some (.int (mPl (I 52) m j)), some (.int (nI j))], [], mjH I X) (fun x => x = (.inl (some (.int (mPl (I 52) m n))), mjH I X)) := by
  intro fuel
  induction fuel with
  | zero => intro j h1 h2; omega
  | succ fuel ih =>
    intro j h1 h2
    refine mjGo.run 5 (pc' := 11) (F' := ([some (.ref 43), some (.int m), some (.int (mPl (I 52) m j)), some (.int (nI j))], [.int (I 44 2), .int (nI j)], mjH I X)) (fun _ => rfl) ?_
    refine mjGo.run 1 (pc' := (bif decide ((I 44 2) ≤ (nI j)) then 40 else 14)) (F' := ([some (.ref 43), some (.int m), some (.int (mPl (I 52) m j)), some (.int (nI j))], [], mjH I X)) (fun _ => rfl) ?_
    refine mjGo.br (fun q0 => ?_) (fun q0 => ?_)
    · show mjGo _ _ 40 _ _
      rw [hn, nI_leI (by omega) (by omega)] at q0
      have e : j = n := by omega
      subst e
      refine mjGo.run 1 (pc' := 41) (F' := ([some (.ref 43), some (.int m), some (.int (mPl (I 52) m j)), some (.int (nI j))], [.int (mPl (I 52) m j)], mjH I X)) (fun _ => rfl) ?_
      exact mjGo.zret rfl (mPl_z _ _ _) rfl
    · show mjGo _ _ 14 _ _
      rw [hn, nI_leI (by omega) (by omega)] at q0
      refine mjGo.run 2 (pc' := (bif decide ((mPl (I 52) m j) ≠ 0) then 28 else 18)) (F' := ([some (.ref 43), some (.int m), some (.int (mPl (I 52) m j)), some (.int (nI j))], [], mjH I X)) (fun _ => rfl) ?_
      refine mjGo.br (fun q1 => ?_) (fun q1 => ?_)
      · show mjGo _ _ 28 _ _
        refine mjGo.run 5 (pc' := 4) (F' := ([some (.ref 43), some (.int m), some (.int 1), some (.int ((nI j) + 1))], [], mjH I X)) (fun _ => rfl) ?_
        have k9 := ih (j + 1) (by omega) (by omega)
        rw [mPl, if_pos q1, ← nI_1] at k9
        exact k9
      · show mjGo _ _ 18 _ _
        refine mjGo.run 3 (pc' := 23) (F' := ([some (.ref 43), some (.int m), some (.int (mPl (I 52) m j)), some (.int (nI j))], [.int (nI j), .ref 52], mjH I X)) (fun _ => rfl) ?_
        refine mjGo.op (pc' := 24) (F' := ([some (.ref 43), some (.int m), some (.int (mPl (I 52) m j)), some (.int (nI j))], [.int (I 52 j)], mjH I X)) (o := mjiald 24) rfl (fun _ => mjald_n (n := 8) (by omega) (by decide) rfl rfl) ?_
        refine mjGo.run 2 (pc' := (bif decide ((I 52 j) ≠ m) then 32 else 28)) (F' := ([some (.ref 43), some (.int m), some (.int (mPl (I 52) m j)), some (.int (nI j))], [], mjH I X)) (fun _ => rfl) ?_
        refine mjGo.br (fun q2 => ?_) (fun q2 => ?_)
        · show mjGo _ _ 32 _ _
          refine mjGo.run 4 (pc' := 4) (F' := ([some (.ref 43), some (.int m), some (.int 0), some (.int ((nI j) + 1))], [], mjH I X)) (fun _ => rfl) ?_
          have k9 := ih (j + 1) (by omega) (by omega)
          rw [mPl, if_neg q1, if_pos q2, ← nI_1] at k9
          exact k9
        · show mjGo _ _ 28 _ _
          refine mjGo.run 5 (pc' := 4) (F' := ([some (.ref 43), some (.int m), some (.int 1), some (.int ((nI j) + 1))], [], mjH I X)) (fun _ => rfl) ?_
          have k9 := ih (j + 1) (by omega) (by omega)
          rw [mPl, if_neg q1, if_neg q2, ← nI_1] at k9
          exact k9
theorem c_mPl (d : Nat) {n : Nat} {I : Nat → Nat → Int32} {X : MX} (m : Int32) (hn : I 44 2 = nI n) (h8 : n ≤ 8) : mjEv d nyX12_isPlanned [.ref 43, .int m] (mjH I X) (.inl (some (.int (mPl (I 52) m n)))) (mjH I X) := by
  refine mjEv.of ?_
  show mjGo d nyX12_isPlanned 0 ([some (.ref 43), some (.int m), none, none], [], mjH I X) _
  refine mjGo.run 4 (pc' := 4) (F' := ([some (.ref 43), some (.int m), some (.int 0), some (.int 0)], [], mjH I X)) (fun _ => rfl) ?_
  exact m_plan_loop hn h8 (n + 1) 0 (by omega) (by omega)
