/-! town: the class takes a statement -/
theorem xMin_le {a : Nat} (h : a < 2 ^ 31) : (xMin (nI a) = 0 ↔ ¬ nI a ≤ 719) ∧ (nI a ≤ 719 → xMin (nI a) = 1) := by
  unfold xMin
  rw [if_neg (nI_pos h)]
  by_cases w : (719 : Int32) < nI a
  · rw [if_pos w]
    exact ⟨⟨fun _ => Int32.not_le.mpr w, fun _ => rfl⟩, fun q => absurd q (Int32.not_le.mpr w)⟩
  · rw [if_neg w]
    exact ⟨⟨fun q => absurd q (by decide), fun q => absurd (Int32.not_lt.mp w) q⟩, fun _ => rfl⟩
theorem c_tkWY (d : Nat) {n a b : Nat} {c la : Int32} {J : Nat → Nat → Int32} {X : MX} (h5 : J 7 5 = nI n) (hn : n ≤ 5) (ha : a < 1000) (hb : b < 1000) (hla : la = if n = 0 then -1 else J 8 (n - 1)) (o1 : n < 5) (m9 : nI a ≤ 719) (o3 : la < nI a) (o4 : nI b ≤ 59) : mjEv (d + 1) nyX10_takesWork [.ref 7, .int (nI a), .int (nI b), .int c] (mjH J X) (.inl (some (.int 1))) (mjH (mjU (mjU (mjU (mjU J 8 n (nI a)) 9 n (nI b)) 10 n c) 7 5 (nI (n + 1))) X) := by
  refine mjEv.of ?_
  show mjGo (d + 1) nyX10_takesWork 0 ([some (.ref 7), some (.int (nI a)), some (.int (nI b)), some (.int c)], [], mjH J X) _
  by_cases z : n = 0
  · refine mjGo.run 2 (pc' := 4) (F' := ([some (.ref 7), some (.int (nI a)), some (.int (nI b)), some (.int c)], [.int (J 7 5)], mjH J X)) (fun _ => rfl) ?_
    refine mjGo.run 1 (pc' := (bif decide ((J 7 5) < 0) then 28 else 7)) (F' := ([some (.ref 7), some (.int (nI a)), some (.int (nI b)), some (.int c)], [], mjH J X)) (fun _ => rfl) ?_
    refine mjGo.brF (show ¬ (J 7 5) < 0 by rw [h5, show (0 : Int32) = nI 0 from rfl, nI_ltI (by omega) (by omega)]; omega) ?_
    show mjGo _ _ 7 _ _
    refine mjGo.run 3 (pc' := 12) (F' := ([some (.ref 7), some (.int (nI a)), some (.int (nI b)), some (.int c)], [.int 5, .int (J 7 5)], mjH J X)) (fun _ => rfl) ?_
    refine mjGo.run 1 (pc' := (bif decide (5 ≤ (J 7 5)) then 28 else 15)) (F' := ([some (.ref 7), some (.int (nI a)), some (.int (nI b)), some (.int c)], [], mjH J X)) (fun _ => rfl) ?_
    refine mjGo.brF (show ¬ 5 ≤ (J 7 5) by rw [h5, show (5 : Int32) = nI 5 from rfl, nI_leI (by omega) (by omega)]; omega) ?_
    show mjGo _ _ 15 _ _
    refine mjGo.run 1 (pc' := 16) (F' := ([some (.ref 7), some (.int (nI a)), some (.int (nI b)), some (.int c)], [.int (nI a)], mjH J X)) (fun _ => rfl) ?_
    refine mjGo.call (n := 1) (j := 69) (nx := 19) (o := some (.int 1)) (h' := mjH J X) (fun _ => rfl) ((by have q9 := c_xMin d (nI a) (mjH J X); rw [(xMin_le (by omega)).2 m9] at q9; exact q9)) ?_
    show mjGo _ _ 19 ([some (.ref 7), some (.int (nI a)), some (.int (nI b)), some (.int c)], [.int 1], mjH J X) _
    refine mjGo.run 3 (pc' := 25) (F' := ([some (.ref 7), some (.int (nI a)), some (.int (nI b)), some (.int c)], [.int 59, .int (nI b)], mjH J X)) (fun _ => rfl) ?_
    refine mjGo.run 1 (pc' := (bif decide ((nI b) ≤ 59) then 30 else 28)) (F' := ([some (.ref 7), some (.int (nI a)), some (.int (nI b)), some (.int c)], [], mjH J X)) (fun _ => rfl) ?_
    refine mjGo.brT (o4) ?_
    show mjGo _ _ 30 _ _
    refine mjGo.run 2 (pc' := 34) (F' := ([some (.ref 7), some (.int (nI a)), some (.int (nI b)), some (.int c)], [.int (J 7 5)], mjH J X)) (fun _ => rfl) ?_
    refine mjGo.run 1 (pc' := (bif decide ((J 7 5) ≤ 0) then 54 else 37)) (F' := ([some (.ref 7), some (.int (nI a)), some (.int (nI b)), some (.int c)], [], mjH J X)) (fun _ => rfl) ?_
    refine mjGo.brT (show (J 7 5) ≤ 0 by rw [h5, show (0 : Int32) = nI 0 from rfl, nI_leI (by omega) (by omega)]; omega) ?_
    show mjGo _ _ 54 _ _
    refine mjGo.run 4 (pc' := 62) (F' := ([some (.ref 7), some (.int (nI a)), some (.int (nI b)), some (.int c)], [.int (J 7 5), .ref 8], mjH J X)) (fun _ => rfl) ?_
    refine mjGo.run 0 (pc' := 62) (F' := ([some (.ref 7), some (.int (nI a)), some (.int (nI b)), some (.int c)], [.int (J 7 5), .ref 8], mjH J X)) (fun _ => rfl) ?_
    rw [show (J 7 5) = (nI n) from h5]
    refine mjGo.run 1 (pc' := 63) (F' := ([some (.ref 7), some (.int (nI a)), some (.int (nI b)), some (.int c)], [.int (nI a), .int (nI n), .ref 8], mjH J X)) (fun _ => rfl) ?_
    refine mjGo.op (pc' := 64) (F' := ([some (.ref 7), some (.int (nI a)), some (.int (nI b)), some (.int c)], [], mjH (mjU J 8 n (nI a)) X)) (o := mjiast 64) rfl (fun _ => mjast_n (n := 5) (by omega) (by decide) (rfl) (rfl)) ?_
    refine mjGo.run 4 (pc' := 72) (F' := ([some (.ref 7), some (.int (nI a)), some (.int (nI b)), some (.int c)], [.int (J 7 5), .ref 9], mjH (mjU J 8 n (nI a)) X)) (fun _ => rfl) ?_
    refine mjGo.run 0 (pc' := 72) (F' := ([some (.ref 7), some (.int (nI a)), some (.int (nI b)), some (.int c)], [.int (J 7 5), .ref 9], mjH (mjU J 8 n (nI a)) X)) (fun _ => rfl) ?_
    rw [show (J 7 5) = (nI n) from h5]
    refine mjGo.run 1 (pc' := 73) (F' := ([some (.ref 7), some (.int (nI a)), some (.int (nI b)), some (.int c)], [.int (nI b), .int (nI n), .ref 9], mjH (mjU J 8 n (nI a)) X)) (fun _ => rfl) ?_
    refine mjGo.op (pc' := 74) (F' := ([some (.ref 7), some (.int (nI a)), some (.int (nI b)), some (.int c)], [], mjH (mjU (mjU J 8 n (nI a)) 9 n (nI b)) X)) (o := mjiast 74) rfl (fun _ => mjast_n (n := 5) (by omega) (by decide) (rfl) (rfl)) ?_
    refine mjGo.run 4 (pc' := 82) (F' := ([some (.ref 7), some (.int (nI a)), some (.int (nI b)), some (.int c)], [.int (J 7 5), .ref 10], mjH (mjU (mjU J 8 n (nI a)) 9 n (nI b)) X)) (fun _ => rfl) ?_
    refine mjGo.run 0 (pc' := 82) (F' := ([some (.ref 7), some (.int (nI a)), some (.int (nI b)), some (.int c)], [.int (J 7 5), .ref 10], mjH (mjU (mjU J 8 n (nI a)) 9 n (nI b)) X)) (fun _ => rfl) ?_
    rw [show (J 7 5) = (nI n) from h5]
    refine mjGo.run 1 (pc' := 83) (F' := ([some (.ref 7), some (.int (nI a)), some (.int (nI b)), some (.int c)], [.int c, .int (nI n), .ref 10], mjH (mjU (mjU J 8 n (nI a)) 9 n (nI b)) X)) (fun _ => rfl) ?_
    refine mjGo.op (pc' := 84) (F' := ([some (.ref 7), some (.int (nI a)), some (.int (nI b)), some (.int c)], [], mjH (mjU (mjU (mjU J 8 n (nI a)) 9 n (nI b)) 10 n c) X)) (o := mjiast 84) rfl (fun _ => mjast_n (n := 5) (by omega) (by decide) (rfl) (rfl)) ?_
    refine mjGo.run 3 (pc' := 89) (F' := ([some (.ref 7), some (.int (nI a)), some (.int (nI b)), some (.int c)], [.int (J 7 5), .ref 7], mjH (mjU (mjU (mjU J 8 n (nI a)) 9 n (nI b)) 10 n c) X)) (fun _ => rfl) ?_
    refine mjGo.run 0 (pc' := 89) (F' := ([some (.ref 7), some (.int (nI a)), some (.int (nI b)), some (.int c)], [.int (J 7 5), .ref 7], mjH (mjU (mjU (mjU J 8 n (nI a)) 9 n (nI b)) 10 n c) X)) (fun _ => rfl) ?_
    rw [show (J 7 5) = (nI n) from h5]
    refine mjGo.run 2 (pc' := 91) (F' := ([some (.ref 7), some (.int (nI a)), some (.int (nI b)), some (.int c)], [.int ((nI n) + 1), .ref 7], mjH (mjU (mjU (mjU J 8 n (nI a)) 9 n (nI b)) 10 n c) X)) (fun _ => rfl) ?_
    refine mjGo.run 0 (pc' := 91) (F' := ([some (.ref 7), some (.int (nI a)), some (.int (nI b)), some (.int c)], [.int ((nI n) + 1), .ref 7], mjH (mjU (mjU (mjU J 8 n (nI a)) 9 n (nI b)) 10 n c) X)) (fun _ => rfl) ?_
    rw [show ((nI n) + 1) = (nI (n + 1)) from nI_1 n]
    exact mjGo.ret 3 (fun _ => rfl) rfl
  · refine mjGo.run 2 (pc' := 4) (F' := ([some (.ref 7), some (.int (nI a)), some (.int (nI b)), some (.int c)], [.int (J 7 5)], mjH J X)) (fun _ => rfl) ?_
    refine mjGo.run 1 (pc' := (bif decide ((J 7 5) < 0) then 28 else 7)) (F' := ([some (.ref 7), some (.int (nI a)), some (.int (nI b)), some (.int c)], [], mjH J X)) (fun _ => rfl) ?_
    refine mjGo.brF (show ¬ (J 7 5) < 0 by rw [h5, show (0 : Int32) = nI 0 from rfl, nI_ltI (by omega) (by omega)]; omega) ?_
    show mjGo _ _ 7 _ _
    refine mjGo.run 3 (pc' := 12) (F' := ([some (.ref 7), some (.int (nI a)), some (.int (nI b)), some (.int c)], [.int 5, .int (J 7 5)], mjH J X)) (fun _ => rfl) ?_
    refine mjGo.run 1 (pc' := (bif decide (5 ≤ (J 7 5)) then 28 else 15)) (F' := ([some (.ref 7), some (.int (nI a)), some (.int (nI b)), some (.int c)], [], mjH J X)) (fun _ => rfl) ?_
    refine mjGo.brF (show ¬ 5 ≤ (J 7 5) by rw [h5, show (5 : Int32) = nI 5 from rfl, nI_leI (by omega) (by omega)]; omega) ?_
    show mjGo _ _ 15 _ _
    refine mjGo.run 1 (pc' := 16) (F' := ([some (.ref 7), some (.int (nI a)), some (.int (nI b)), some (.int c)], [.int (nI a)], mjH J X)) (fun _ => rfl) ?_
    refine mjGo.call (n := 1) (j := 69) (nx := 19) (o := some (.int 1)) (h' := mjH J X) (fun _ => rfl) ((by have q9 := c_xMin d (nI a) (mjH J X); rw [(xMin_le (by omega)).2 m9] at q9; exact q9)) ?_
    show mjGo _ _ 19 ([some (.ref 7), some (.int (nI a)), some (.int (nI b)), some (.int c)], [.int 1], mjH J X) _
    refine mjGo.run 3 (pc' := 25) (F' := ([some (.ref 7), some (.int (nI a)), some (.int (nI b)), some (.int c)], [.int 59, .int (nI b)], mjH J X)) (fun _ => rfl) ?_
    refine mjGo.run 1 (pc' := (bif decide ((nI b) ≤ 59) then 30 else 28)) (F' := ([some (.ref 7), some (.int (nI a)), some (.int (nI b)), some (.int c)], [], mjH J X)) (fun _ => rfl) ?_
    refine mjGo.brT (o4) ?_
    show mjGo _ _ 30 _ _
    refine mjGo.run 2 (pc' := 34) (F' := ([some (.ref 7), some (.int (nI a)), some (.int (nI b)), some (.int c)], [.int (J 7 5)], mjH J X)) (fun _ => rfl) ?_
    refine mjGo.run 1 (pc' := (bif decide ((J 7 5) ≤ 0) then 54 else 37)) (F' := ([some (.ref 7), some (.int (nI a)), some (.int (nI b)), some (.int c)], [], mjH J X)) (fun _ => rfl) ?_
    refine mjGo.brF (show ¬ (J 7 5) ≤ 0 by rw [h5, show (0 : Int32) = nI 0 from rfl, nI_leI (by omega) (by omega)]; omega) ?_
    show mjGo _ _ 37 _ _
    refine mjGo.run 7 (pc' := 48) (F' := ([some (.ref 7), some (.int (nI a)), some (.int (nI b)), some (.int c)], [.int ((J 7 5) - 1), .ref 8, .int (nI a)], mjH J X)) (fun _ => rfl) ?_
    refine mjGo.run 0 (pc' := 48) (F' := ([some (.ref 7), some (.int (nI a)), some (.int (nI b)), some (.int c)], [.int ((J 7 5) - 1), .ref 8, .int (nI a)], mjH J X)) (fun _ => rfl) ?_
    rw [show ((J 7 5) - 1) = (nI (n - 1)) from by rw [h5]; exact nI_subN (show 1 ≤ n by omega) (by omega)]
    refine mjGo.op (pc' := 49) (F' := ([some (.ref 7), some (.int (nI a)), some (.int (nI b)), some (.int c)], [.int (J 8 (n - 1)), .int (nI a)], mjH J X)) (o := mjiald 49) rfl (fun _ => mjald_n (n := 5) (by omega) (by decide) (rfl) (rfl)) ?_
    refine mjGo.run 1 (pc' := (bif decide ((J 8 (n - 1)) < (nI a)) then 54 else 52)) (F' := ([some (.ref 7), some (.int (nI a)), some (.int (nI b)), some (.int c)], [], mjH J X)) (fun _ => rfl) ?_
    refine mjGo.brT (by rw [if_neg z] at hla; rw [← hla]; exact o3) ?_
    show mjGo _ _ 54 _ _
    refine mjGo.run 4 (pc' := 62) (F' := ([some (.ref 7), some (.int (nI a)), some (.int (nI b)), some (.int c)], [.int (J 7 5), .ref 8], mjH J X)) (fun _ => rfl) ?_
    refine mjGo.run 0 (pc' := 62) (F' := ([some (.ref 7), some (.int (nI a)), some (.int (nI b)), some (.int c)], [.int (J 7 5), .ref 8], mjH J X)) (fun _ => rfl) ?_
    rw [show (J 7 5) = (nI n) from h5]
    refine mjGo.run 1 (pc' := 63) (F' := ([some (.ref 7), some (.int (nI a)), some (.int (nI b)), some (.int c)], [.int (nI a), .int (nI n), .ref 8], mjH J X)) (fun _ => rfl) ?_
    refine mjGo.op (pc' := 64) (F' := ([some (.ref 7), some (.int (nI a)), some (.int (nI b)), some (.int c)], [], mjH (mjU J 8 n (nI a)) X)) (o := mjiast 64) rfl (fun _ => mjast_n (n := 5) (by omega) (by decide) (rfl) (rfl)) ?_
    refine mjGo.run 4 (pc' := 72) (F' := ([some (.ref 7), some (.int (nI a)), some (.int (nI b)), some (.int c)], [.int (J 7 5), .ref 9], mjH (mjU J 8 n (nI a)) X)) (fun _ => rfl) ?_
    refine mjGo.run 0 (pc' := 72) (F' := ([some (.ref 7), some (.int (nI a)), some (.int (nI b)), some (.int c)], [.int (J 7 5), .ref 9], mjH (mjU J 8 n (nI a)) X)) (fun _ => rfl) ?_
    rw [show (J 7 5) = (nI n) from h5]
    refine mjGo.run 1 (pc' := 73) (F' := ([some (.ref 7), some (.int (nI a)), some (.int (nI b)), some (.int c)], [.int (nI b), .int (nI n), .ref 9], mjH (mjU J 8 n (nI a)) X)) (fun _ => rfl) ?_
    refine mjGo.op (pc' := 74) (F' := ([some (.ref 7), some (.int (nI a)), some (.int (nI b)), some (.int c)], [], mjH (mjU (mjU J 8 n (nI a)) 9 n (nI b)) X)) (o := mjiast 74) rfl (fun _ => mjast_n (n := 5) (by omega) (by decide) (rfl) (rfl)) ?_
    refine mjGo.run 4 (pc' := 82) (F' := ([some (.ref 7), some (.int (nI a)), some (.int (nI b)), some (.int c)], [.int (J 7 5), .ref 10], mjH (mjU (mjU J 8 n (nI a)) 9 n (nI b)) X)) (fun _ => rfl) ?_
    refine mjGo.run 0 (pc' := 82) (F' := ([some (.ref 7), some (.int (nI a)), some (.int (nI b)), some (.int c)], [.int (J 7 5), .ref 10], mjH (mjU (mjU J 8 n (nI a)) 9 n (nI b)) X)) (fun _ => rfl) ?_
    rw [show (J 7 5) = (nI n) from h5]
    refine mjGo.run 1 (pc' := 83) (F' := ([some (.ref 7), some (.int (nI a)), some (.int (nI b)), some (.int c)], [.int c, .int (nI n), .ref 10], mjH (mjU (mjU J 8 n (nI a)) 9 n (nI b)) X)) (fun _ => rfl) ?_
    refine mjGo.op (pc' := 84) (F' := ([some (.ref 7), some (.int (nI a)), some (.int (nI b)), some (.int c)], [], mjH (mjU (mjU (mjU J 8 n (nI a)) 9 n (nI b)) 10 n c) X)) (o := mjiast 84) rfl (fun _ => mjast_n (n := 5) (by omega) (by decide) (rfl) (rfl)) ?_
    refine mjGo.run 3 (pc' := 89) (F' := ([some (.ref 7), some (.int (nI a)), some (.int (nI b)), some (.int c)], [.int (J 7 5), .ref 7], mjH (mjU (mjU (mjU J 8 n (nI a)) 9 n (nI b)) 10 n c) X)) (fun _ => rfl) ?_
    refine mjGo.run 0 (pc' := 89) (F' := ([some (.ref 7), some (.int (nI a)), some (.int (nI b)), some (.int c)], [.int (J 7 5), .ref 7], mjH (mjU (mjU (mjU J 8 n (nI a)) 9 n (nI b)) 10 n c) X)) (fun _ => rfl) ?_
    rw [show (J 7 5) = (nI n) from h5]
    refine mjGo.run 2 (pc' := 91) (F' := ([some (.ref 7), some (.int (nI a)), some (.int (nI b)), some (.int c)], [.int ((nI n) + 1), .ref 7], mjH (mjU (mjU (mjU J 8 n (nI a)) 9 n (nI b)) 10 n c) X)) (fun _ => rfl) ?_
    refine mjGo.run 0 (pc' := 91) (F' := ([some (.ref 7), some (.int (nI a)), some (.int (nI b)), some (.int c)], [.int ((nI n) + 1), .ref 7], mjH (mjU (mjU (mjU J 8 n (nI a)) 9 n (nI b)) 10 n c) X)) (fun _ => rfl) ?_
    rw [show ((nI n) + 1) = (nI (n + 1)) from nI_1 n]
    exact mjGo.ret 3 (fun _ => rfl) rfl
theorem c_tkWN (d : Nat) {n a b : Nat} {c la : Int32} {J : Nat → Nat → Int32} {X : MX} (h5 : J 7 5 = nI n) (hn : n ≤ 5) (ha : a < 1000) (hb : b < 1000) (hla : la = if n = 0 then -1 else J 8 (n - 1)) (ho : ¬ (n < 5 ∧ nI a ≤ 719 ∧ la < nI a ∧ nI b ≤ 59)) : mjEv (d + 1) nyX10_takesWork [.ref 7, .int (nI a), .int (nI b), .int c] (mjH J X) (.inl (some (.int 0))) (mjH J X) := by
  refine mjEv.of ?_
  show mjGo (d + 1) nyX10_takesWork 0 ([some (.ref 7), some (.int (nI a)), some (.int (nI b)), some (.int c)], [], mjH J X) _
  by_cases z : n = 0
  · refine mjGo.run 2 (pc' := 4) (F' := ([some (.ref 7), some (.int (nI a)), some (.int (nI b)), some (.int c)], [.int (J 7 5)], mjH J X)) (fun _ => rfl) ?_
    refine mjGo.run 1 (pc' := (bif decide ((J 7 5) < 0) then 28 else 7)) (F' := ([some (.ref 7), some (.int (nI a)), some (.int (nI b)), some (.int c)], [], mjH J X)) (fun _ => rfl) ?_
    refine mjGo.brF (show ¬ (J 7 5) < 0 by rw [h5, show (0 : Int32) = nI 0 from rfl, nI_ltI (by omega) (by omega)]; omega) ?_
    show mjGo _ _ 7 _ _
    refine mjGo.run 4 (pc' := (bif decide (5 ≤ (J 7 5)) then 28 else 15)) (F' := ([some (.ref 7), some (.int (nI a)), some (.int (nI b)), some (.int c)], [], mjH J X)) (fun _ => rfl) ?_
    refine mjGo.br (fun q1 => ?_) (fun q1 => ?_)
    · show mjGo _ _ 28 _ _
      exact mjGo.ret 2 (fun _ => rfl) rfl
    · show mjGo _ _ 15 _ _
      refine mjGo.run 1 (pc' := 16) (F' := ([some (.ref 7), some (.int (nI a)), some (.int (nI b)), some (.int c)], [.int (nI a)], mjH J X)) (fun _ => rfl) ?_
      refine mjGo.call (n := 1) (j := 69) (nx := 19) (o := some (.int (xMin (nI a)))) (h' := mjH J X) (fun _ => rfl) (c_xMin d (nI a) _) ?_
      show mjGo _ _ 19 ([some (.ref 7), some (.int (nI a)), some (.int (nI b)), some (.int c)], [.int (xMin (nI a))], mjH J X) _
      refine mjGo.run 1 (pc' := (bif decide ((xMin (nI a)) = 0) then 28 else 22)) (F' := ([some (.ref 7), some (.int (nI a)), some (.int (nI b)), some (.int c)], [], mjH J X)) (fun _ => rfl) ?_
      refine mjGo.br (fun q2 => ?_) (fun q2 => ?_)
      · show mjGo _ _ 28 _ _
        exact mjGo.ret 2 (fun _ => rfl) rfl
      · show mjGo _ _ 22 _ _
        refine mjGo.run 3 (pc' := (bif decide ((nI b) ≤ 59) then 30 else 28)) (F' := ([some (.ref 7), some (.int (nI a)), some (.int (nI b)), some (.int c)], [], mjH J X)) (fun _ => rfl) ?_
        refine mjGo.br (fun q3 => ?_) (fun q3 => ?_)
        · show mjGo _ _ 30 _ _
          refine mjGo.run 2 (pc' := 34) (F' := ([some (.ref 7), some (.int (nI a)), some (.int (nI b)), some (.int c)], [.int (J 7 5)], mjH J X)) (fun _ => rfl) ?_
          refine mjGo.run 1 (pc' := (bif decide ((J 7 5) ≤ 0) then 54 else 37)) (F' := ([some (.ref 7), some (.int (nI a)), some (.int (nI b)), some (.int c)], [], mjH J X)) (fun _ => rfl) ?_
          refine mjGo.brT (show (J 7 5) ≤ 0 by rw [h5, show (0 : Int32) = nI 0 from rfl, nI_leI (by omega) (by omega)]; omega) ?_
          show mjGo _ _ 54 _ _
          exfalso
          have k1 : n < 5 := by have q9 := q1; rw [h5, show (5 : Int32) = nI 5 from rfl, nI_leI (by omega) (by omega)] at q9; omega
          have k2 : nI a ≤ 719 := Decidable.not_not.mp (fun w => q2 ((xMin_le (by omega)).1.mpr w))
          rw [if_pos z] at hla
          have e1 : (-1 : Int32).toInt = -1 := by decide
          exact ho ⟨k1, k2, by rw [hla, i32_lt, e1, nI_toInt (by omega)]; omega, q3⟩
        · show mjGo _ _ 28 _ _
          exact mjGo.ret 2 (fun _ => rfl) rfl
  · refine mjGo.run 2 (pc' := 4) (F' := ([some (.ref 7), some (.int (nI a)), some (.int (nI b)), some (.int c)], [.int (J 7 5)], mjH J X)) (fun _ => rfl) ?_
    refine mjGo.run 1 (pc' := (bif decide ((J 7 5) < 0) then 28 else 7)) (F' := ([some (.ref 7), some (.int (nI a)), some (.int (nI b)), some (.int c)], [], mjH J X)) (fun _ => rfl) ?_
    refine mjGo.brF (show ¬ (J 7 5) < 0 by rw [h5, show (0 : Int32) = nI 0 from rfl, nI_ltI (by omega) (by omega)]; omega) ?_
    show mjGo _ _ 7 _ _
    refine mjGo.run 4 (pc' := (bif decide (5 ≤ (J 7 5)) then 28 else 15)) (F' := ([some (.ref 7), some (.int (nI a)), some (.int (nI b)), some (.int c)], [], mjH J X)) (fun _ => rfl) ?_
    refine mjGo.br (fun q1 => ?_) (fun q1 => ?_)
    · show mjGo _ _ 28 _ _
      exact mjGo.ret 2 (fun _ => rfl) rfl
    · show mjGo _ _ 15 _ _
      refine mjGo.run 1 (pc' := 16) (F' := ([some (.ref 7), some (.int (nI a)), some (.int (nI b)), some (.int c)], [.int (nI a)], mjH J X)) (fun _ => rfl) ?_
      refine mjGo.call (n := 1) (j := 69) (nx := 19) (o := some (.int (xMin (nI a)))) (h' := mjH J X) (fun _ => rfl) (c_xMin d (nI a) _) ?_
      show mjGo _ _ 19 ([some (.ref 7), some (.int (nI a)), some (.int (nI b)), some (.int c)], [.int (xMin (nI a))], mjH J X) _
      refine mjGo.run 1 (pc' := (bif decide ((xMin (nI a)) = 0) then 28 else 22)) (F' := ([some (.ref 7), some (.int (nI a)), some (.int (nI b)), some (.int c)], [], mjH J X)) (fun _ => rfl) ?_
      refine mjGo.br (fun q2 => ?_) (fun q2 => ?_)
      · show mjGo _ _ 28 _ _
        exact mjGo.ret 2 (fun _ => rfl) rfl
      · show mjGo _ _ 22 _ _
        refine mjGo.run 3 (pc' := (bif decide ((nI b) ≤ 59) then 30 else 28)) (F' := ([some (.ref 7), some (.int (nI a)), some (.int (nI b)), some (.int c)], [], mjH J X)) (fun _ => rfl) ?_
        refine mjGo.br (fun q3 => ?_) (fun q3 => ?_)
        · show mjGo _ _ 30 _ _
          refine mjGo.run 2 (pc' := 34) (F' := ([some (.ref 7), some (.int (nI a)), some (.int (nI b)), some (.int c)], [.int (J 7 5)], mjH J X)) (fun _ => rfl) ?_
          refine mjGo.run 1 (pc' := (bif decide ((J 7 5) ≤ 0) then 54 else 37)) (F' := ([some (.ref 7), some (.int (nI a)), some (.int (nI b)), some (.int c)], [], mjH J X)) (fun _ => rfl) ?_
          refine mjGo.brF (show ¬ (J 7 5) ≤ 0 by rw [h5, show (0 : Int32) = nI 0 from rfl, nI_leI (by omega) (by omega)]; omega) ?_
          show mjGo _ _ 37 _ _
          refine mjGo.run 7 (pc' := 48) (F' := ([some (.ref 7), some (.int (nI a)), some (.int (nI b)), some (.int c)], [.int ((J 7 5) - 1), .ref 8, .int (nI a)], mjH J X)) (fun _ => rfl) ?_
          refine mjGo.run 0 (pc' := 48) (F' := ([some (.ref 7), some (.int (nI a)), some (.int (nI b)), some (.int c)], [.int ((J 7 5) - 1), .ref 8, .int (nI a)], mjH J X)) (fun _ => rfl) ?_
          rw [show ((J 7 5) - 1) = (nI (n - 1)) from by rw [h5]; exact nI_subN (show 1 ≤ n by omega) (by omega)]
          refine mjGo.op (pc' := 49) (F' := ([some (.ref 7), some (.int (nI a)), some (.int (nI b)), some (.int c)], [.int (J 8 (n - 1)), .int (nI a)], mjH J X)) (o := mjiald 49) rfl (fun _ => mjald_n (n := 5) (by omega) (by decide) (rfl) (rfl)) ?_
          refine mjGo.run 1 (pc' := (bif decide ((J 8 (n - 1)) < (nI a)) then 54 else 52)) (F' := ([some (.ref 7), some (.int (nI a)), some (.int (nI b)), some (.int c)], [], mjH J X)) (fun _ => rfl) ?_
          refine mjGo.br (fun q4 => ?_) (fun q4 => ?_)
          · show mjGo _ _ 54 _ _
            exfalso
            have k1 : n < 5 := by have q9 := q1; rw [h5, show (5 : Int32) = nI 5 from rfl, nI_leI (by omega) (by omega)] at q9; omega
            have k2 : nI a ≤ 719 := Decidable.not_not.mp (fun w => q2 ((xMin_le (by omega)).1.mpr w))
            rw [if_neg z] at hla
            exact ho ⟨k1, k2, by rw [hla]; exact q4, q3⟩
          · show mjGo _ _ 52 _ _
            exact mjGo.ret 2 (fun _ => rfl) rfl
        · show mjGo _ _ 28 _ _
          exact mjGo.ret 2 (fun _ => rfl) rfl
theorem c_tkPY (d : Nat) {n a : Nat} {la : Int32} {J : Nat → Nat → Int32} {X : MX} (h7 : J 7 7 = nI n) (hn : n ≤ 8) (ha : a < 1000) (hla : la = if n = 0 then -1 else J 12 (n - 1)) (o1 : n < 8) (m9 : nI a ≤ 719) (o3 : la < nI a) : mjEv (d + 1) nyX10_takesPlanned [.ref 7, .int (nI a)] (mjH J X) (.inl (some (.int 1))) (mjH (mjU (mjU J 12 n (nI a)) 7 7 (nI (n + 1))) X) := by
  refine mjEv.of ?_
  show mjGo (d + 1) nyX10_takesPlanned 0 ([some (.ref 7), some (.int (nI a))], [], mjH J X) _
  by_cases z : n = 0
  · refine mjGo.run 2 (pc' := 4) (F' := ([some (.ref 7), some (.int (nI a))], [.int (J 7 7)], mjH J X)) (fun _ => rfl) ?_
    refine mjGo.run 1 (pc' := (bif decide ((J 7 7) < 0) then 23 else 7)) (F' := ([some (.ref 7), some (.int (nI a))], [], mjH J X)) (fun _ => rfl) ?_
    refine mjGo.brF (show ¬ (J 7 7) < 0 by rw [h7, show (0 : Int32) = nI 0 from rfl, nI_ltI (by omega) (by omega)]; omega) ?_
    show mjGo _ _ 7 _ _
    refine mjGo.run 3 (pc' := 13) (F' := ([some (.ref 7), some (.int (nI a))], [.int 8, .int (J 7 7)], mjH J X)) (fun _ => rfl) ?_
    refine mjGo.run 1 (pc' := (bif decide (8 ≤ (J 7 7)) then 23 else 16)) (F' := ([some (.ref 7), some (.int (nI a))], [], mjH J X)) (fun _ => rfl) ?_
    refine mjGo.brF (show ¬ 8 ≤ (J 7 7) by rw [h7, show (8 : Int32) = nI 8 from rfl, nI_leI (by omega) (by omega)]; omega) ?_
    show mjGo _ _ 16 _ _
    refine mjGo.run 1 (pc' := 17) (F' := ([some (.ref 7), some (.int (nI a))], [.int (nI a)], mjH J X)) (fun _ => rfl) ?_
    refine mjGo.call (n := 1) (j := 69) (nx := 20) (o := some (.int 1)) (h' := mjH J X) (fun _ => rfl) ((by have q9 := c_xMin d (nI a) (mjH J X); rw [(xMin_le (by omega)).2 m9] at q9; exact q9)) ?_
    show mjGo _ _ 20 ([some (.ref 7), some (.int (nI a))], [.int 1], mjH J X) _
    refine mjGo.run 3 (pc' := 29) (F' := ([some (.ref 7), some (.int (nI a))], [.int (J 7 7)], mjH J X)) (fun _ => rfl) ?_
    refine mjGo.run 1 (pc' := (bif decide ((J 7 7) ≤ 0) then 49 else 32)) (F' := ([some (.ref 7), some (.int (nI a))], [], mjH J X)) (fun _ => rfl) ?_
    refine mjGo.brT (show (J 7 7) ≤ 0 by rw [h7, show (0 : Int32) = nI 0 from rfl, nI_leI (by omega) (by omega)]; omega) ?_
    show mjGo _ _ 49 _ _
    refine mjGo.run 4 (pc' := 57) (F' := ([some (.ref 7), some (.int (nI a))], [.int (J 7 7), .ref 12], mjH J X)) (fun _ => rfl) ?_
    refine mjGo.run 0 (pc' := 57) (F' := ([some (.ref 7), some (.int (nI a))], [.int (J 7 7), .ref 12], mjH J X)) (fun _ => rfl) ?_
    rw [show (J 7 7) = (nI n) from h7]
    refine mjGo.run 1 (pc' := 58) (F' := ([some (.ref 7), some (.int (nI a))], [.int (nI a), .int (nI n), .ref 12], mjH J X)) (fun _ => rfl) ?_
    refine mjGo.op (pc' := 59) (F' := ([some (.ref 7), some (.int (nI a))], [], mjH (mjU J 12 n (nI a)) X)) (o := mjiast 59) rfl (fun _ => mjast_n (n := 8) (by omega) (by decide) (rfl) (rfl)) ?_
    refine mjGo.run 3 (pc' := 64) (F' := ([some (.ref 7), some (.int (nI a))], [.int (J 7 7), .ref 7], mjH (mjU J 12 n (nI a)) X)) (fun _ => rfl) ?_
    refine mjGo.run 0 (pc' := 64) (F' := ([some (.ref 7), some (.int (nI a))], [.int (J 7 7), .ref 7], mjH (mjU J 12 n (nI a)) X)) (fun _ => rfl) ?_
    rw [show (J 7 7) = (nI n) from h7]
    refine mjGo.run 2 (pc' := 66) (F' := ([some (.ref 7), some (.int (nI a))], [.int ((nI n) + 1), .ref 7], mjH (mjU J 12 n (nI a)) X)) (fun _ => rfl) ?_
    refine mjGo.run 0 (pc' := 66) (F' := ([some (.ref 7), some (.int (nI a))], [.int ((nI n) + 1), .ref 7], mjH (mjU J 12 n (nI a)) X)) (fun _ => rfl) ?_
    rw [show ((nI n) + 1) = (nI (n + 1)) from nI_1 n]
    exact mjGo.ret 3 (fun _ => rfl) rfl
  · refine mjGo.run 2 (pc' := 4) (F' := ([some (.ref 7), some (.int (nI a))], [.int (J 7 7)], mjH J X)) (fun _ => rfl) ?_
    refine mjGo.run 1 (pc' := (bif decide ((J 7 7) < 0) then 23 else 7)) (F' := ([some (.ref 7), some (.int (nI a))], [], mjH J X)) (fun _ => rfl) ?_
    refine mjGo.brF (show ¬ (J 7 7) < 0 by rw [h7, show (0 : Int32) = nI 0 from rfl, nI_ltI (by omega) (by omega)]; omega) ?_
    show mjGo _ _ 7 _ _
    refine mjGo.run 3 (pc' := 13) (F' := ([some (.ref 7), some (.int (nI a))], [.int 8, .int (J 7 7)], mjH J X)) (fun _ => rfl) ?_
    refine mjGo.run 1 (pc' := (bif decide (8 ≤ (J 7 7)) then 23 else 16)) (F' := ([some (.ref 7), some (.int (nI a))], [], mjH J X)) (fun _ => rfl) ?_
    refine mjGo.brF (show ¬ 8 ≤ (J 7 7) by rw [h7, show (8 : Int32) = nI 8 from rfl, nI_leI (by omega) (by omega)]; omega) ?_
    show mjGo _ _ 16 _ _
    refine mjGo.run 1 (pc' := 17) (F' := ([some (.ref 7), some (.int (nI a))], [.int (nI a)], mjH J X)) (fun _ => rfl) ?_
    refine mjGo.call (n := 1) (j := 69) (nx := 20) (o := some (.int 1)) (h' := mjH J X) (fun _ => rfl) ((by have q9 := c_xMin d (nI a) (mjH J X); rw [(xMin_le (by omega)).2 m9] at q9; exact q9)) ?_
    show mjGo _ _ 20 ([some (.ref 7), some (.int (nI a))], [.int 1], mjH J X) _
    refine mjGo.run 3 (pc' := 29) (F' := ([some (.ref 7), some (.int (nI a))], [.int (J 7 7)], mjH J X)) (fun _ => rfl) ?_
    refine mjGo.run 1 (pc' := (bif decide ((J 7 7) ≤ 0) then 49 else 32)) (F' := ([some (.ref 7), some (.int (nI a))], [], mjH J X)) (fun _ => rfl) ?_
    refine mjGo.brF (show ¬ (J 7 7) ≤ 0 by rw [h7, show (0 : Int32) = nI 0 from rfl, nI_leI (by omega) (by omega)]; omega) ?_
    show mjGo _ _ 32 _ _
    refine mjGo.run 7 (pc' := 43) (F' := ([some (.ref 7), some (.int (nI a))], [.int ((J 7 7) - 1), .ref 12, .int (nI a)], mjH J X)) (fun _ => rfl) ?_
    refine mjGo.run 0 (pc' := 43) (F' := ([some (.ref 7), some (.int (nI a))], [.int ((J 7 7) - 1), .ref 12, .int (nI a)], mjH J X)) (fun _ => rfl) ?_
    rw [show ((J 7 7) - 1) = (nI (n - 1)) from by rw [h7]; exact nI_subN (show 1 ≤ n by omega) (by omega)]
    refine mjGo.op (pc' := 44) (F' := ([some (.ref 7), some (.int (nI a))], [.int (J 12 (n - 1)), .int (nI a)], mjH J X)) (o := mjiald 44) rfl (fun _ => mjald_n (n := 8) (by omega) (by decide) (rfl) (rfl)) ?_
    refine mjGo.run 1 (pc' := (bif decide ((J 12 (n - 1)) < (nI a)) then 49 else 47)) (F' := ([some (.ref 7), some (.int (nI a))], [], mjH J X)) (fun _ => rfl) ?_
    refine mjGo.brT (by rw [if_neg z] at hla; rw [← hla]; exact o3) ?_
    show mjGo _ _ 49 _ _
    refine mjGo.run 4 (pc' := 57) (F' := ([some (.ref 7), some (.int (nI a))], [.int (J 7 7), .ref 12], mjH J X)) (fun _ => rfl) ?_
    refine mjGo.run 0 (pc' := 57) (F' := ([some (.ref 7), some (.int (nI a))], [.int (J 7 7), .ref 12], mjH J X)) (fun _ => rfl) ?_
    rw [show (J 7 7) = (nI n) from h7]
    refine mjGo.run 1 (pc' := 58) (F' := ([some (.ref 7), some (.int (nI a))], [.int (nI a), .int (nI n), .ref 12], mjH J X)) (fun _ => rfl) ?_
    refine mjGo.op (pc' := 59) (F' := ([some (.ref 7), some (.int (nI a))], [], mjH (mjU J 12 n (nI a)) X)) (o := mjiast 59) rfl (fun _ => mjast_n (n := 8) (by omega) (by decide) (rfl) (rfl)) ?_
    refine mjGo.run 3 (pc' := 64) (F' := ([some (.ref 7), some (.int (nI a))], [.int (J 7 7), .ref 7], mjH (mjU J 12 n (nI a)) X)) (fun _ => rfl) ?_
    refine mjGo.run 0 (pc' := 64) (F' := ([some (.ref 7), some (.int (nI a))], [.int (J 7 7), .ref 7], mjH (mjU J 12 n (nI a)) X)) (fun _ => rfl) ?_
    rw [show (J 7 7) = (nI n) from h7]
    refine mjGo.run 2 (pc' := 66) (F' := ([some (.ref 7), some (.int (nI a))], [.int ((nI n) + 1), .ref 7], mjH (mjU J 12 n (nI a)) X)) (fun _ => rfl) ?_
    refine mjGo.run 0 (pc' := 66) (F' := ([some (.ref 7), some (.int (nI a))], [.int ((nI n) + 1), .ref 7], mjH (mjU J 12 n (nI a)) X)) (fun _ => rfl) ?_
    rw [show ((nI n) + 1) = (nI (n + 1)) from nI_1 n]
    exact mjGo.ret 3 (fun _ => rfl) rfl
theorem c_tkPN (d : Nat) {n a : Nat} {la : Int32} {J : Nat → Nat → Int32} {X : MX} (h7 : J 7 7 = nI n) (hn : n ≤ 8) (ha : a < 1000) (hla : la = if n = 0 then -1 else J 12 (n - 1)) (ho : ¬ (n < 8 ∧ nI a ≤ 719 ∧ la < nI a)) : mjEv (d + 1) nyX10_takesPlanned [.ref 7, .int (nI a)] (mjH J X) (.inl (some (.int 0))) (mjH J X) := by
  refine mjEv.of ?_
  show mjGo (d + 1) nyX10_takesPlanned 0 ([some (.ref 7), some (.int (nI a))], [], mjH J X) _
  by_cases z : n = 0
  · refine mjGo.run 2 (pc' := 4) (F' := ([some (.ref 7), some (.int (nI a))], [.int (J 7 7)], mjH J X)) (fun _ => rfl) ?_
    refine mjGo.run 1 (pc' := (bif decide ((J 7 7) < 0) then 23 else 7)) (F' := ([some (.ref 7), some (.int (nI a))], [], mjH J X)) (fun _ => rfl) ?_
    refine mjGo.brF (show ¬ (J 7 7) < 0 by rw [h7, show (0 : Int32) = nI 0 from rfl, nI_ltI (by omega) (by omega)]; omega) ?_
    show mjGo _ _ 7 _ _
    refine mjGo.run 4 (pc' := (bif decide (8 ≤ (J 7 7)) then 23 else 16)) (F' := ([some (.ref 7), some (.int (nI a))], [], mjH J X)) (fun _ => rfl) ?_
    refine mjGo.br (fun q1 => ?_) (fun q1 => ?_)
    · show mjGo _ _ 23 _ _
      exact mjGo.ret 2 (fun _ => rfl) rfl
    · show mjGo _ _ 16 _ _
      refine mjGo.run 1 (pc' := 17) (F' := ([some (.ref 7), some (.int (nI a))], [.int (nI a)], mjH J X)) (fun _ => rfl) ?_
      refine mjGo.call (n := 1) (j := 69) (nx := 20) (o := some (.int (xMin (nI a)))) (h' := mjH J X) (fun _ => rfl) (c_xMin d (nI a) _) ?_
      show mjGo _ _ 20 ([some (.ref 7), some (.int (nI a))], [.int (xMin (nI a))], mjH J X) _
      refine mjGo.run 1 (pc' := (bif decide ((xMin (nI a)) ≠ 0) then 25 else 23)) (F' := ([some (.ref 7), some (.int (nI a))], [], mjH J X)) (fun _ => rfl) ?_
      refine mjGo.br (fun q2 => ?_) (fun q2 => ?_)
      · show mjGo _ _ 25 _ _
        refine mjGo.run 2 (pc' := 29) (F' := ([some (.ref 7), some (.int (nI a))], [.int (J 7 7)], mjH J X)) (fun _ => rfl) ?_
        refine mjGo.run 1 (pc' := (bif decide ((J 7 7) ≤ 0) then 49 else 32)) (F' := ([some (.ref 7), some (.int (nI a))], [], mjH J X)) (fun _ => rfl) ?_
        refine mjGo.brT (show (J 7 7) ≤ 0 by rw [h7, show (0 : Int32) = nI 0 from rfl, nI_leI (by omega) (by omega)]; omega) ?_
        show mjGo _ _ 49 _ _
        exfalso
        have k1 : n < 8 := by have q9 := q1; rw [h7, show (8 : Int32) = nI 8 from rfl, nI_leI (by omega) (by omega)] at q9; omega
        have k2 : nI a ≤ 719 := Decidable.not_not.mp (fun w => q2 ((xMin_le (by omega)).1.mpr w))
        rw [if_pos z] at hla
        have e1 : (-1 : Int32).toInt = -1 := by decide
        exact ho ⟨k1, k2, by rw [hla, i32_lt, e1, nI_toInt (by omega)]; omega⟩
      · show mjGo _ _ 23 _ _
        exact mjGo.ret 2 (fun _ => rfl) rfl
  · refine mjGo.run 2 (pc' := 4) (F' := ([some (.ref 7), some (.int (nI a))], [.int (J 7 7)], mjH J X)) (fun _ => rfl) ?_
    refine mjGo.run 1 (pc' := (bif decide ((J 7 7) < 0) then 23 else 7)) (F' := ([some (.ref 7), some (.int (nI a))], [], mjH J X)) (fun _ => rfl) ?_
    refine mjGo.brF (show ¬ (J 7 7) < 0 by rw [h7, show (0 : Int32) = nI 0 from rfl, nI_ltI (by omega) (by omega)]; omega) ?_
    show mjGo _ _ 7 _ _
    refine mjGo.run 4 (pc' := (bif decide (8 ≤ (J 7 7)) then 23 else 16)) (F' := ([some (.ref 7), some (.int (nI a))], [], mjH J X)) (fun _ => rfl) ?_
    refine mjGo.br (fun q1 => ?_) (fun q1 => ?_)
    · show mjGo _ _ 23 _ _
      exact mjGo.ret 2 (fun _ => rfl) rfl
    · show mjGo _ _ 16 _ _
      refine mjGo.run 1 (pc' := 17) (F' := ([some (.ref 7), some (.int (nI a))], [.int (nI a)], mjH J X)) (fun _ => rfl) ?_
      refine mjGo.call (n := 1) (j := 69) (nx := 20) (o := some (.int (xMin (nI a)))) (h' := mjH J X) (fun _ => rfl) (c_xMin d (nI a) _) ?_
      show mjGo _ _ 20 ([some (.ref 7), some (.int (nI a))], [.int (xMin (nI a))], mjH J X) _
      refine mjGo.run 1 (pc' := (bif decide ((xMin (nI a)) ≠ 0) then 25 else 23)) (F' := ([some (.ref 7), some (.int (nI a))], [], mjH J X)) (fun _ => rfl) ?_
      refine mjGo.br (fun q2 => ?_) (fun q2 => ?_)
      · show mjGo _ _ 25 _ _
        refine mjGo.run 2 (pc' := 29) (F' := ([some (.ref 7), some (.int (nI a))], [.int (J 7 7)], mjH J X)) (fun _ => rfl) ?_
        refine mjGo.run 1 (pc' := (bif decide ((J 7 7) ≤ 0) then 49 else 32)) (F' := ([some (.ref 7), some (.int (nI a))], [], mjH J X)) (fun _ => rfl) ?_
        refine mjGo.brF (show ¬ (J 7 7) ≤ 0 by rw [h7, show (0 : Int32) = nI 0 from rfl, nI_leI (by omega) (by omega)]; omega) ?_
        show mjGo _ _ 32 _ _
        refine mjGo.run 7 (pc' := 43) (F' := ([some (.ref 7), some (.int (nI a))], [.int ((J 7 7) - 1), .ref 12, .int (nI a)], mjH J X)) (fun _ => rfl) ?_
        refine mjGo.run 0 (pc' := 43) (F' := ([some (.ref 7), some (.int (nI a))], [.int ((J 7 7) - 1), .ref 12, .int (nI a)], mjH J X)) (fun _ => rfl) ?_
        rw [show ((J 7 7) - 1) = (nI (n - 1)) from by rw [h7]; exact nI_subN (show 1 ≤ n by omega) (by omega)]
        refine mjGo.op (pc' := 44) (F' := ([some (.ref 7), some (.int (nI a))], [.int (J 12 (n - 1)), .int (nI a)], mjH J X)) (o := mjiald 44) rfl (fun _ => mjald_n (n := 8) (by omega) (by decide) (rfl) (rfl)) ?_
        refine mjGo.run 1 (pc' := (bif decide ((J 12 (n - 1)) < (nI a)) then 49 else 47)) (F' := ([some (.ref 7), some (.int (nI a))], [], mjH J X)) (fun _ => rfl) ?_
        refine mjGo.br (fun q3 => ?_) (fun q3 => ?_)
        · show mjGo _ _ 49 _ _
          exfalso
          have k1 : n < 8 := by have q9 := q1; rw [h7, show (8 : Int32) = nI 8 from rfl, nI_leI (by omega) (by omega)] at q9; omega
          have k2 : nI a ≤ 719 := Decidable.not_not.mp (fun w => q2 ((xMin_le (by omega)).1.mpr w))
          rw [if_neg z] at hla
          exact ho ⟨k1, k2, by rw [hla]; exact q3⟩
        · show mjGo _ _ 47 _ _
          exact mjGo.ret 2 (fun _ => rfl) rfl
      · show mjGo _ _ 23 _ _
        exact mjGo.ret 2 (fun _ => rfl) rfl
theorem c_tkLY (d : Nat) {a : Nat} {J : Nat → Nat → Int32} {X : MX} (ha : a < 1000) (o1 : nI a ≤ 2) : mjEv d nyX10_takesLaw [.ref 7, .int (nI a)] (mjH J X) (.inl (some (.int 1))) (mjH (mjU J 7 8 (nI a)) X) := by
  have o2 : a ≤ 2 := by rw [show (2 : Int32) = nI 2 from rfl, nI_leI (by omega) (by omega)] at o1; exact o1
  refine mjEv.of ?_
  show mjGo d nyX10_takesLaw 0 ([some (.ref 7), some (.int (nI a))], [], mjH J X) _
  refine mjGo.run 2 (pc' := (bif decide ((nI a) < 0) then 9 else 4)) (F' := ([some (.ref 7), some (.int (nI a))], [], mjH J X)) (fun _ => rfl) ?_
  refine mjGo.br (fun q1 => ?_) (fun q1 => ?_)
  · show mjGo _ _ 9 _ _
    exact absurd q1 (nI_pos (by omega))
  · show mjGo _ _ 4 _ _
    refine mjGo.run 3 (pc' := (bif decide ((nI a) < 3) then 11 else 9)) (F' := ([some (.ref 7), some (.int (nI a))], [], mjH J X)) (fun _ => rfl) ?_
    refine mjGo.br (fun q2 => ?_) (fun q2 => ?_)
    · show mjGo _ _ 11 _ _
      exact mjGo.ret 5 (fun _ => rfl) rfl
    · show mjGo _ _ 9 _ _
      exfalso
      rw [show (3 : Int32) = nI 3 from rfl, nI_ltI (by omega) (by omega)] at q2
      omega
theorem c_tkLN (d : Nat) {a : Nat} {J : Nat → Nat → Int32} {X : MX} (ha : a < 1000) (o1 : ¬ nI a ≤ 2) : mjEv d nyX10_takesLaw [.ref 7, .int (nI a)] (mjH J X) (.inl (some (.int 0))) (mjH J X) := by
  have o2 : ¬ a ≤ 2 := by rw [show (2 : Int32) = nI 2 from rfl, nI_leI (by omega) (by omega)] at o1; exact o1
  refine mjEv.of ?_
  show mjGo d nyX10_takesLaw 0 ([some (.ref 7), some (.int (nI a))], [], mjH J X) _
  refine mjGo.run 2 (pc' := (bif decide ((nI a) < 0) then 9 else 4)) (F' := ([some (.ref 7), some (.int (nI a))], [], mjH J X)) (fun _ => rfl) ?_
  refine mjGo.br (fun q1 => ?_) (fun q1 => ?_)
  · show mjGo _ _ 9 _ _
    exact mjGo.ret 2 (fun _ => rfl) rfl
  · show mjGo _ _ 4 _ _
    refine mjGo.run 3 (pc' := (bif decide ((nI a) < 3) then 11 else 9)) (F' := ([some (.ref 7), some (.int (nI a))], [], mjH J X)) (fun _ => rfl) ?_
    refine mjGo.br (fun q2 => ?_) (fun q2 => ?_)
    · show mjGo _ _ 11 _ _
      exfalso
      rw [show (3 : Int32) = nI 3 from rfl, nI_ltI (by omega) (by omega)] at q2
      omega
    · show mjGo _ _ 9 _ _
      exact mjGo.ret 2 (fun _ => rfl) rfl
theorem c_tkKY (d : Nat) {n a b w9 : Nat} {c : Int32} {J : Nat → Nat → Int32} {X : MX} (h6 : J 7 6 = nI n) (hn : n ≤ 6) (ha : a < 1000) (hb : b < 1000) (hw : w9 < 1000) (hN : X.2.2.2.1 + 75 < 900000) (o1 : n < 6) (o2 : nI a ≤ 7) (o3 : mIn c (-20) 20 ≠ 0) (m9 : nI w9 ≤ 719) : mjEv (d + 5) nyX10_takesLooker [.ref 7, .int (nI a), .int (nI b), .int c, .int (nI w9)] (mjH J X) (.inl (some (.int 1))) (mjH (mjU (lkI (nwI J X) (X.2.2.2.1 + 75) (nI n) (nI b) c (nI w9)) 7 6 (nI (n + 1))) (stP (nwX X (lkc a)) 11 n (X.2.2.2.1 + 75))) := by
  have o2 : a < 8 := by rw [show (7 : Int32) = nI 7 from rfl, nI_leI (by omega) (by omega)] at o2; omega
  have c1 : ¬ c < -20 := fun q => o3 (mIn_lo q)
  have c2 : ¬ 20 < c := fun q => o3 (mIn_hi q)
  have hlo : (lkI (nwI J X) (X.2.2.2.1 + 75) (nI n) (nI b) c (nI w9)) 7 6 = nI n := by
    rw [← h6]
    unfold lkI nwI
    rw [mjU_r (by omega), mjU_r (by omega), mjU_r (by omega), mjU_r (by omega), mjR_ne (by omega)]
  refine mjEv.of ?_
  show mjGo (d + 5) nyX10_takesLooker 0 ([some (.ref 7), some (.int (nI a)), some (.int (nI b)), some (.int c), some (.int (nI w9))], [], mjH J X) _
  refine mjGo.run 2 (pc' := 4) (F' := ([some (.ref 7), some (.int (nI a)), some (.int (nI b)), some (.int c), some (.int (nI w9))], [.int (J 7 6)], mjH J X)) (fun _ => rfl) ?_
  refine mjGo.run 1 (pc' := (bif decide ((J 7 6) < 0) then 30 else 7)) (F' := ([some (.ref 7), some (.int (nI a)), some (.int (nI b)), some (.int c), some (.int (nI w9))], [], mjH J X)) (fun _ => rfl) ?_
  refine mjGo.brF (show ¬ (J 7 6) < 0 by rw [h6, show (0 : Int32) = nI 0 from rfl, nI_ltI (by omega) (by omega)]; omega) ?_
  show mjGo _ _ 7 _ _
  refine mjGo.run 3 (pc' := 13) (F' := ([some (.ref 7), some (.int (nI a)), some (.int (nI b)), some (.int c), some (.int (nI w9))], [.int 6, .int (J 7 6)], mjH J X)) (fun _ => rfl) ?_
  refine mjGo.run 1 (pc' := (bif decide (6 ≤ (J 7 6)) then 30 else 16)) (F' := ([some (.ref 7), some (.int (nI a)), some (.int (nI b)), some (.int c), some (.int (nI w9))], [], mjH J X)) (fun _ => rfl) ?_
  refine mjGo.brF (show ¬ 6 ≤ (J 7 6) by rw [h6, show (6 : Int32) = nI 6 from rfl, nI_leI (by omega) (by omega)]; omega) ?_
  show mjGo _ _ 16 _ _
  refine mjGo.run 2 (pc' := 19) (F' := ([some (.ref 7), some (.int (nI a)), some (.int (nI b)), some (.int c), some (.int (nI w9))], [.int 8, .int (nI a)], mjH J X)) (fun _ => rfl) ?_
  refine mjGo.run 1 (pc' := (bif decide (8 ≤ (nI a)) then 30 else 22)) (F' := ([some (.ref 7), some (.int (nI a)), some (.int (nI b)), some (.int c), some (.int (nI w9))], [], mjH J X)) (fun _ => rfl) ?_
  refine mjGo.brF (show ¬ 8 ≤ (nI a) by rw [show (8 : Int32) = nI 8 from rfl, nI_leI (by omega) (by omega)]; omega) ?_
  show mjGo _ _ 22 _ _
  refine mjGo.run 1 (pc' := 24) (F' := ([some (.ref 7), some (.int (nI a)), some (.int (nI b)), some (.int c), some (.int (nI w9))], [.int (nI w9)], mjH J X)) (fun _ => rfl) ?_
  refine mjGo.call (n := 1) (j := 69) (nx := 27) (o := some (.int 1)) (h' := mjH J X) (fun _ => rfl) ((by have q9 := c_xMin (d + 4) (nI w9) (mjH J X); rw [(xMin_le (by omega)).2 m9] at q9; exact q9)) ?_
  show mjGo _ _ 27 ([some (.ref 7), some (.int (nI a)), some (.int (nI b)), some (.int c), some (.int (nI w9))], [.int 1], mjH J X) _
  refine mjGo.run 3 (pc' := 35) (F' := ([some (.ref 7), some (.int (nI a)), some (.int (nI b)), some (.int c), some (.int (nI w9))], [.int (-20), .int c], mjH J X)) (fun _ => rfl) ?_
  refine mjGo.run 1 (pc' := (bif decide (c < (-20)) then 44 else 38)) (F' := ([some (.ref 7), some (.int (nI a)), some (.int (nI b)), some (.int c), some (.int (nI w9))], [], mjH J X)) (fun _ => rfl) ?_
  refine mjGo.brF (c1) ?_
  show mjGo _ _ 38 _ _
  refine mjGo.run 2 (pc' := 41) (F' := ([some (.ref 7), some (.int (nI a)), some (.int (nI b)), some (.int c), some (.int (nI w9))], [.int 20, .int c], mjH J X)) (fun _ => rfl) ?_
  refine mjGo.run 1 (pc' := (bif decide (c ≤ 20) then 46 else 44)) (F' := ([some (.ref 7), some (.int (nI a)), some (.int (nI b)), some (.int c), some (.int (nI w9))], [], mjH J X)) (fun _ => rfl) ?_
  refine mjGo.brT (Int32.not_lt.mp c2) ?_
  show mjGo _ _ 46 _ _
  refine mjGo.run 4 (pc' := 54) (F' := ([some (.ref 7), some (.int (nI a)), some (.int (nI b)), some (.int c), some (.int (nI w9))], [.int (J 7 6), .ref 11], mjH J X)) (fun _ => rfl) ?_
  refine mjGo.run 0 (pc' := 54) (F' := ([some (.ref 7), some (.int (nI a)), some (.int (nI b)), some (.int c), some (.int (nI w9))], [.int (J 7 6), .ref 11], mjH J X)) (fun _ => rfl) ?_
  rw [show (J 7 6) = (nI n) from h6]
  refine mjGo.run 3 (pc' := 59) (F' := ([some (.ref 7), some (.int (nI a)), some (.int (nI b)), some (.int c), some (.int (nI w9))], [.int (J 7 6), .int (nI a), .int (nI n), .ref 11], mjH J X)) (fun _ => rfl) ?_
  refine mjGo.run 0 (pc' := 59) (F' := ([some (.ref 7), some (.int (nI a)), some (.int (nI b)), some (.int c), some (.int (nI w9))], [.int (J 7 6), .int (nI a), .int (nI n), .ref 11], mjH J X)) (fun _ => rfl) ?_
  rw [show (J 7 6) = (nI n) from h6]
  refine mjGo.run 3 (pc' := 63) (F' := ([some (.ref 7), some (.int (nI a)), some (.int (nI b)), some (.int c), some (.int (nI w9))], [.int (nI w9), .int c, .int (nI b), .int (nI n), .int (nI a), .int (nI n), .ref 11], mjH J X)) (fun _ => rfl) ?_
  refine mjGo.call (n := 5) (j := 71) (nx := 66) (o := some (.ref (X.2.2.2.1 + 75))) (h' := mjH (lkI (nwI J X) (X.2.2.2.1 + 75) (nI n) (nI b) c (nI w9)) (nwX X (lkc a))) (fun _ => rfl) (c_nwL d (show a < 8 by omega) hN) ?_
  show mjGo _ _ 66 ([some (.ref 7), some (.int (nI a)), some (.int (nI b)), some (.int c), some (.int (nI w9))], [.ref (X.2.2.2.1 + 75), .int (nI n), .ref 11], mjH (lkI (nwI J X) (X.2.2.2.1 + 75) (nI n) (nI b) c (nI w9)) (nwX X (lkc a))) _
  refine mjGo.op (pc' := 67) (F' := ([some (.ref 7), some (.int (nI a)), some (.int (nI b)), some (.int c), some (.int (nI w9))], [], mjH (lkI (nwI J X) (X.2.2.2.1 + 75) (nI n) (nI b) c (nI w9)) (stP (nwX X (lkc a)) 11 n (X.2.2.2.1 + 75)))) (o := mjaast 14 [0, 1, 2, 4, 5, 7, 8, 9] 67) rfl (fun _ => aast_op (n := 6) (X := nwX X (lkc a)) (by omega) (by omega) rfl rfl rfl (nwX_K (by omega))) ?_
  refine mjGo.run 3 (pc' := 72) (F' := ([some (.ref 7), some (.int (nI a)), some (.int (nI b)), some (.int c), some (.int (nI w9))], [.int ((lkI (nwI J X) (X.2.2.2.1 + 75) (nI n) (nI b) c (nI w9)) 7 6), .ref 7], mjH (lkI (nwI J X) (X.2.2.2.1 + 75) (nI n) (nI b) c (nI w9)) (stP (nwX X (lkc a)) 11 n (X.2.2.2.1 + 75)))) (fun _ => rfl) ?_
  refine mjGo.run 0 (pc' := 72) (F' := ([some (.ref 7), some (.int (nI a)), some (.int (nI b)), some (.int c), some (.int (nI w9))], [.int ((lkI (nwI J X) (X.2.2.2.1 + 75) (nI n) (nI b) c (nI w9)) 7 6), .ref 7], mjH (lkI (nwI J X) (X.2.2.2.1 + 75) (nI n) (nI b) c (nI w9)) (stP (nwX X (lkc a)) 11 n (X.2.2.2.1 + 75)))) (fun _ => rfl) ?_
  rw [show ((lkI (nwI J X) (X.2.2.2.1 + 75) (nI n) (nI b) c (nI w9)) 7 6) = (nI n) from hlo]
  refine mjGo.run 2 (pc' := 74) (F' := ([some (.ref 7), some (.int (nI a)), some (.int (nI b)), some (.int c), some (.int (nI w9))], [.int ((nI n) + 1), .ref 7], mjH (lkI (nwI J X) (X.2.2.2.1 + 75) (nI n) (nI b) c (nI w9)) (stP (nwX X (lkc a)) 11 n (X.2.2.2.1 + 75)))) (fun _ => rfl) ?_
  refine mjGo.run 0 (pc' := 74) (F' := ([some (.ref 7), some (.int (nI a)), some (.int (nI b)), some (.int c), some (.int (nI w9))], [.int ((nI n) + 1), .ref 7], mjH (lkI (nwI J X) (X.2.2.2.1 + 75) (nI n) (nI b) c (nI w9)) (stP (nwX X (lkc a)) 11 n (X.2.2.2.1 + 75)))) (fun _ => rfl) ?_
  rw [show ((nI n) + 1) = (nI (n + 1)) from nI_1 n]
  exact mjGo.ret 3 (fun _ => rfl) rfl
theorem c_tkKN (d : Nat) {n a b w9 : Nat} {c : Int32} {J : Nat → Nat → Int32} {X : MX} (h6 : J 7 6 = nI n) (hn : n ≤ 6) (ha : a < 1000) (hb : b < 1000) (hw : w9 < 1000) (ho : ¬ (n < 6 ∧ nI a ≤ 7 ∧ ¬ mIn c (-20) 20 = 0 ∧ nI w9 ≤ 719)) : mjEv (d + 5) nyX10_takesLooker [.ref 7, .int (nI a), .int (nI b), .int c, .int (nI w9)] (mjH J X) (.inl (some (.int 0))) (mjH J X) := by
  refine mjEv.of ?_
  show mjGo (d + 5) nyX10_takesLooker 0 ([some (.ref 7), some (.int (nI a)), some (.int (nI b)), some (.int c), some (.int (nI w9))], [], mjH J X) _
  refine mjGo.run 2 (pc' := 4) (F' := ([some (.ref 7), some (.int (nI a)), some (.int (nI b)), some (.int c), some (.int (nI w9))], [.int (J 7 6)], mjH J X)) (fun _ => rfl) ?_
  refine mjGo.run 1 (pc' := (bif decide ((J 7 6) < 0) then 30 else 7)) (F' := ([some (.ref 7), some (.int (nI a)), some (.int (nI b)), some (.int c), some (.int (nI w9))], [], mjH J X)) (fun _ => rfl) ?_
  refine mjGo.brF (show ¬ (J 7 6) < 0 by rw [h6, show (0 : Int32) = nI 0 from rfl, nI_ltI (by omega) (by omega)]; omega) ?_
  show mjGo _ _ 7 _ _
  refine mjGo.run 4 (pc' := (bif decide (6 ≤ (J 7 6)) then 30 else 16)) (F' := ([some (.ref 7), some (.int (nI a)), some (.int (nI b)), some (.int c), some (.int (nI w9))], [], mjH J X)) (fun _ => rfl) ?_
  refine mjGo.br (fun q1 => ?_) (fun q1 => ?_)
  · show mjGo _ _ 30 _ _
    exact mjGo.ret 2 (fun _ => rfl) rfl
  · show mjGo _ _ 16 _ _
    refine mjGo.run 3 (pc' := (bif decide (8 ≤ (nI a)) then 30 else 22)) (F' := ([some (.ref 7), some (.int (nI a)), some (.int (nI b)), some (.int c), some (.int (nI w9))], [], mjH J X)) (fun _ => rfl) ?_
    refine mjGo.br (fun q2 => ?_) (fun q2 => ?_)
    · show mjGo _ _ 30 _ _
      exact mjGo.ret 2 (fun _ => rfl) rfl
    · show mjGo _ _ 22 _ _
      refine mjGo.run 1 (pc' := 24) (F' := ([some (.ref 7), some (.int (nI a)), some (.int (nI b)), some (.int c), some (.int (nI w9))], [.int (nI w9)], mjH J X)) (fun _ => rfl) ?_
      refine mjGo.call (n := 1) (j := 69) (nx := 27) (o := some (.int (xMin (nI w9)))) (h' := mjH J X) (fun _ => rfl) (c_xMin (d + 4) (nI w9) _) ?_
      show mjGo _ _ 27 ([some (.ref 7), some (.int (nI a)), some (.int (nI b)), some (.int c), some (.int (nI w9))], [.int (xMin (nI w9))], mjH J X) _
      refine mjGo.run 1 (pc' := (bif decide ((xMin (nI w9)) ≠ 0) then 32 else 30)) (F' := ([some (.ref 7), some (.int (nI a)), some (.int (nI b)), some (.int c), some (.int (nI w9))], [], mjH J X)) (fun _ => rfl) ?_
      refine mjGo.br (fun q3 => ?_) (fun q3 => ?_)
      · show mjGo _ _ 32 _ _
        refine mjGo.run 3 (pc' := (bif decide (c < (-20)) then 44 else 38)) (F' := ([some (.ref 7), some (.int (nI a)), some (.int (nI b)), some (.int c), some (.int (nI w9))], [], mjH J X)) (fun _ => rfl) ?_
        refine mjGo.br (fun q4 => ?_) (fun q4 => ?_)
        · show mjGo _ _ 44 _ _
          exact mjGo.ret 2 (fun _ => rfl) rfl
        · show mjGo _ _ 38 _ _
          refine mjGo.run 3 (pc' := (bif decide (c ≤ 20) then 46 else 44)) (F' := ([some (.ref 7), some (.int (nI a)), some (.int (nI b)), some (.int c), some (.int (nI w9))], [], mjH J X)) (fun _ => rfl) ?_
          refine mjGo.br (fun q5 => ?_) (fun q5 => ?_)
          · show mjGo _ _ 46 _ _
            exfalso
            have k1 : n < 6 := by have q9 := q1; rw [h6, show (6 : Int32) = nI 6 from rfl, nI_leI (by omega) (by omega)] at q9; omega
            have k2 : nI a ≤ 7 := by have q9 := q2; rw [show (8 : Int32) = nI 8 from rfl, nI_leI (by omega) (by omega)] at q9; rw [show (7 : Int32) = nI 7 from rfl, nI_leI (by omega) (by omega)]; omega
            have k3 : nI w9 ≤ 719 := Decidable.not_not.mp (fun w => q3 ((xMin_le (by omega)).1.mpr w))
            exact ho ⟨k1, k2, by rw [mIn_ok q4 (Int32.not_lt.mpr q5)]; decide, k3⟩
          · show mjGo _ _ 44 _ _
            exact mjGo.ret 2 (fun _ => rfl) rfl
      · show mjGo _ _ 30 _ _
        exact mjGo.ret 2 (fun _ => rfl) rfl
