/-! learn: the reference -/
theorem m_lr_dead {o5 : Option Value} {d e sz m : Nat} {q : Int32} {I : Nat → Nat → Int32} {X : MX} {r : MO × MH → Prop} (he : e < 8) (hz : I 68 e = nI sz) (hs : sz ≤ 100) (hm : sz = 3 * m) (g : r (.inl (some (.int (-13))), mjH I X)) (j : Nat) : mjGo (d + 3) nyX12_learn 76 ([some (.ref 43), some (.int (nI e)), some (.int q), some (.int 0), some (.int (nI j)), o5, none, none, none, none, none], [], mjH I X) r := by
  refine mjGo.run 4 (pc' := 83) (F' := ([some (.ref 43), some (.int (nI e)), some (.int q), some (.int 0), some (.int (nI j)), o5, none, none, none, none, none], [.int (nI e), .ref 68, .int (nI j)], mjH I X)) (fun _ => rfl) ?_
  refine mjGo.op (pc' := 84) (F' := ([some (.ref 43), some (.int (nI e)), some (.int q), some (.int 0), some (.int (nI j)), o5, none, none, none, none, none], [.int (I 68 e), .int (nI j)], mjH I X)) (o := mjiald 84) rfl (fun _ => mjald_n (n := 8) (by omega) (by decide) (rfl) (rfl)) ?_
  refine mjGo.run 3 (pc' := (bif decide (((I 68 e) / 3) ≤ (nI j)) then 163 else 89)) (F' := ([some (.ref 43), some (.int (nI e)), some (.int q), some (.int 0), some (.int (nI j)), o5, none, none, none, none, none], [], mjH I X)) (fun _ => rfl) ?_
  refine mjGo.br (fun q1 => ?_) (fun q1 => ?_)
  · show mjGo _ _ 163 _ _
    exact mjGo.ret 4 (fun _ => rfl) g
  · show mjGo _ _ 89 _ _
    exact mjGo.ret 6 (fun _ => rfl) g
theorem m_lr_th {d e sz m : Nat} {q : Int32} {I : Nat → Nat → Int32} {X : MX} {r : MO × MH → Prop} (he : e < 8) (hz : I 68 e = nI sz) (hs : sz ≤ 100) (hm : sz = 3 * m) : ∀ (k j : Nat) (o5 : Option Value), j + k = m → (alB (thB (fun j => I 69 (100 * e + j))) k j = true → ∀ o4 o5, mjGo (d + 3) nyX12_learn 170 ([some (.ref 43), some (.int (nI e)), some (.int q), some (.int 1), o4, o5, none, none, none, none, none], [], mjH I X) r) → (alB (thB (fun j => I 69 (100 * e + j))) k j = false → r (.inl (some (.int (-13))), mjH I X)) →
    mjGo (d + 3) nyX12_learn 76 ([some (.ref 43), some (.int (nI e)), some (.int q), some (.int 1), some (.int (nI j)), o5, none, none, none, none, none], [], mjH I X) r := by
  intro k
  induction k with
  | zero =>
    intro j o5 hj g1 g2
    refine mjGo.run 4 (pc' := 83) (F' := ([some (.ref 43), some (.int (nI e)), some (.int q), some (.int 1), some (.int (nI j)), o5, none, none, none, none, none], [.int (nI e), .ref 68, .int (nI j)], mjH I X)) (fun _ => rfl) ?_
    refine mjGo.op (pc' := 84) (F' := ([some (.ref 43), some (.int (nI e)), some (.int q), some (.int 1), some (.int (nI j)), o5, none, none, none, none, none], [.int (I 68 e), .int (nI j)], mjH I X)) (o := mjiald 84) rfl (fun _ => mjald_n (n := 8) (by omega) (by decide) (rfl) (rfl)) ?_
    refine mjGo.run 2 (pc' := 86) (F' := ([some (.ref 43), some (.int (nI e)), some (.int q), some (.int 1), some (.int (nI j)), o5, none, none, none, none, none], [.int ((I 68 e) / 3), .int (nI j)], mjH I X)) (fun _ => rfl) ?_
    refine mjGo.run 1 (pc' := (bif decide (((I 68 e) / 3) ≤ (nI j)) then 163 else 89)) (F' := ([some (.ref 43), some (.int (nI e)), some (.int q), some (.int 1), some (.int (nI j)), o5, none, none, none, none, none], [], mjH I X)) (fun _ => rfl) ?_
    refine mjGo.brT (by rw [hz, dv3 hs, nI_leI (by omega) (by omega)]; omega) ?_
    show mjGo _ _ 163 _ _
    refine mjGo.run 2 (pc' := 170) (F' := ([some (.ref 43), some (.int (nI e)), some (.int q), some (.int 1), some (.int (nI j)), o5, none, none, none, none, none], [], mjH I X)) (fun _ => rfl) ?_
    exact g1 rfl _ _
  | succ k ih =>
    intro j o5 hj g1 g2
    refine mjGo.run 4 (pc' := 83) (F' := ([some (.ref 43), some (.int (nI e)), some (.int q), some (.int 1), some (.int (nI j)), o5, none, none, none, none, none], [.int (nI e), .ref 68, .int (nI j)], mjH I X)) (fun _ => rfl) ?_
    refine mjGo.op (pc' := 84) (F' := ([some (.ref 43), some (.int (nI e)), some (.int q), some (.int 1), some (.int (nI j)), o5, none, none, none, none, none], [.int (I 68 e), .int (nI j)], mjH I X)) (o := mjiald 84) rfl (fun _ => mjald_n (n := 8) (by omega) (by decide) (rfl) (rfl)) ?_
    refine mjGo.run 2 (pc' := 86) (F' := ([some (.ref 43), some (.int (nI e)), some (.int q), some (.int 1), some (.int (nI j)), o5, none, none, none, none, none], [.int ((I 68 e) / 3), .int (nI j)], mjH I X)) (fun _ => rfl) ?_
    refine mjGo.run 1 (pc' := (bif decide (((I 68 e) / 3) ≤ (nI j)) then 163 else 89)) (F' := ([some (.ref 43), some (.int (nI e)), some (.int q), some (.int 1), some (.int (nI j)), o5, none, none, none, none, none], [], mjH I X)) (fun _ => rfl) ?_
    refine mjGo.brF (by rw [hz, dv3 hs, nI_leI (by omega) (by omega)]; omega) ?_
    show mjGo _ _ 89 _ _
    refine mjGo.run 9 (pc' := 102) (F' := ([some (.ref 43), some (.int (nI e)), some (.int q), some (.int 1), some (.int (nI j)), o5, none, none, none, none, none], [.int ((100 * (nI e)) + (3 * (nI j)))], mjH I X)) (fun _ => rfl) ?_
    refine mjGo.run 0 (pc' := 102) (F' := ([some (.ref 43), some (.int (nI e)), some (.int q), some (.int 1), some (.int (nI j)), o5, none, none, none, none, none], [.int ((100 * (nI e)) + (3 * (nI j)))], mjH I X)) (fun _ => rfl) ?_
    rw [show ((100 * (nI e)) + (3 * (nI j))) = (nI (100 * e + 3 * j)) from id3]
    refine mjGo.run 4 (pc' := 110) (F' := ([some (.ref 43), some (.int (nI e)), some (.int q), some (.int 1), some (.int (nI j)), some (.int (nI (100 * e + 3 * j))), none, none, none, none, none], [.int (nI (100 * e + 3 * j)), .ref 69], mjH I X)) (fun _ => rfl) ?_
    refine mjGo.op (pc' := 111) (F' := ([some (.ref 43), some (.int (nI e)), some (.int q), some (.int 1), some (.int (nI j)), some (.int (nI (100 * e + 3 * j))), none, none, none, none, none], [.int (I 69 (100 * e + 3 * j))], mjH I X)) (o := mjiald 111) rfl (fun _ => mjald_n (n := 800) (by omega) (by decide) (rfl) (rfl)) ?_
    refine mjGo.call (n := 1) (j := 133) (nx := 114) (o := some (.int (mMin (I 69 (100 * e + 3 * j))))) (h' := mjH I X) (fun _ => rfl) (c_mMin (d + 1) (I 69 (100 * e + 3 * j)) _) ?_
    show mjGo _ _ 114 ([some (.ref 43), some (.int (nI e)), some (.int q), some (.int 1), some (.int (nI j)), some (.int (nI (100 * e + 3 * j))), none, none, none, none, none], [.int (mMin (I 69 (100 * e + 3 * j)))], mjH I X) _
    refine mjGo.run 1 (pc' := (bif decide ((mMin (I 69 (100 * e + 3 * j))) = 0) then 155 else 117)) (F' := ([some (.ref 43), some (.int (nI e)), some (.int q), some (.int 1), some (.int (nI j)), some (.int (nI (100 * e + 3 * j))), none, none, none, none, none], [], mjH I X)) (fun _ => rfl) ?_
    refine mjGo.br (fun q1 => ?_) (fun q1 => ?_)
    · show mjGo _ _ 155 _ _
      refine mjGo.run 4 (pc' := 76) (F' := ([some (.ref 43), some (.int (nI e)), some (.int q), some (.int 0), some (.int ((nI j) + 1)), some (.int (nI (100 * e + 3 * j))), none, none, none, none, none], [], mjH I X)) (fun _ => rfl) ?_
      rw [nI_1]
      exact m_lr_dead he hz hs hm (g2 (alB_f (p := thB (fun j => I 69 (100 * e + j))) (thB_1 q1))) (j + 1)
    · show mjGo _ _ 117 _ _
      refine mjGo.run 5 (pc' := 125) (F' := ([some (.ref 43), some (.int (nI e)), some (.int q), some (.int 1), some (.int (nI j)), some (.int (nI (100 * e + 3 * j))), none, none, none, none, none], [.int ((nI (100 * e + 3 * j)) + 1), .ref 69], mjH I X)) (fun _ => rfl) ?_
      refine mjGo.run 0 (pc' := 125) (F' := ([some (.ref 43), some (.int (nI e)), some (.int q), some (.int 1), some (.int (nI j)), some (.int (nI (100 * e + 3 * j))), none, none, none, none, none], [.int ((nI (100 * e + 3 * j)) + 1), .ref 69], mjH I X)) (fun _ => rfl) ?_
      rw [show ((nI (100 * e + 3 * j)) + 1) = (nI (100 * e + (3 * j + 1))) from nI_add _ 1]
      refine mjGo.op (pc' := 126) (F' := ([some (.ref 43), some (.int (nI e)), some (.int q), some (.int 1), some (.int (nI j)), some (.int (nI (100 * e + 3 * j))), none, none, none, none, none], [.int (I 69 (100 * e + (3 * j + 1)))], mjH I X)) (o := mjiald 126) rfl (fun _ => mjald_n (n := 800) (by omega) (by decide) (rfl) (rfl)) ?_
      refine mjGo.call (n := 1) (j := 133) (nx := 129) (o := some (.int (mMin (I 69 (100 * e + (3 * j + 1)))))) (h' := mjH I X) (fun _ => rfl) (c_mMin (d + 1) (I 69 (100 * e + (3 * j + 1))) _) ?_
      show mjGo _ _ 129 ([some (.ref 43), some (.int (nI e)), some (.int q), some (.int 1), some (.int (nI j)), some (.int (nI (100 * e + 3 * j))), none, none, none, none, none], [.int (mMin (I 69 (100 * e + (3 * j + 1))))], mjH I X) _
      refine mjGo.run 1 (pc' := (bif decide ((mMin (I 69 (100 * e + (3 * j + 1)))) = 0) then 155 else 132)) (F' := ([some (.ref 43), some (.int (nI e)), some (.int q), some (.int 1), some (.int (nI j)), some (.int (nI (100 * e + 3 * j))), none, none, none, none, none], [], mjH I X)) (fun _ => rfl) ?_
      refine mjGo.br (fun q2 => ?_) (fun q2 => ?_)
      · show mjGo _ _ 155 _ _
        refine mjGo.run 4 (pc' := 76) (F' := ([some (.ref 43), some (.int (nI e)), some (.int q), some (.int 0), some (.int ((nI j) + 1)), some (.int (nI (100 * e + 3 * j))), none, none, none, none, none], [], mjH I X)) (fun _ => rfl) ?_
        rw [nI_1]
        exact m_lr_dead he hz hs hm (g2 (alB_f (p := thB (fun j => I 69 (100 * e + j))) (thB_2 q2))) (j + 1)
      · show mjGo _ _ 132 _ _
        refine mjGo.run 3 (pc' := 138) (F' := ([some (.ref 43), some (.int (nI e)), some (.int q), some (.int 1), some (.int (nI j)), some (.int (nI (100 * e + 3 * j))), none, none, none, none, none], [.int (nI (100 * e + 3 * j)), .ref 69], mjH I X)) (fun _ => rfl) ?_
        refine mjGo.op (pc' := 139) (F' := ([some (.ref 43), some (.int (nI e)), some (.int q), some (.int 1), some (.int (nI j)), some (.int (nI (100 * e + 3 * j))), none, none, none, none, none], [.int (I 69 (100 * e + 3 * j))], mjH I X)) (o := mjiald 139) rfl (fun _ => mjald_n (n := 800) (by omega) (by decide) (rfl) (rfl)) ?_
        refine mjGo.run 5 (pc' := 147) (F' := ([some (.ref 43), some (.int (nI e)), some (.int q), some (.int 1), some (.int (nI j)), some (.int (nI (100 * e + 3 * j))), none, none, none, none, none], [.int ((nI (100 * e + 3 * j)) + 1), .ref 69, .int (I 69 (100 * e + 3 * j))], mjH I X)) (fun _ => rfl) ?_
        refine mjGo.run 0 (pc' := 147) (F' := ([some (.ref 43), some (.int (nI e)), some (.int q), some (.int 1), some (.int (nI j)), some (.int (nI (100 * e + 3 * j))), none, none, none, none, none], [.int ((nI (100 * e + 3 * j)) + 1), .ref 69, .int (I 69 (100 * e + 3 * j))], mjH I X)) (fun _ => rfl) ?_
        rw [show ((nI (100 * e + 3 * j)) + 1) = (nI (100 * e + (3 * j + 1))) from nI_add _ 1]
        refine mjGo.op (pc' := 148) (F' := ([some (.ref 43), some (.int (nI e)), some (.int q), some (.int 1), some (.int (nI j)), some (.int (nI (100 * e + 3 * j))), none, none, none, none, none], [.int (I 69 (100 * e + (3 * j + 1))), .int (I 69 (100 * e + 3 * j))], mjH I X)) (o := mjiald 148) rfl (fun _ => mjald_n (n := 800) (by omega) (by decide) (rfl) (rfl)) ?_
        refine mjGo.run 1 (pc' := (bif decide ((I 69 (100 * e + (3 * j + 1))) ≤ (I 69 (100 * e + 3 * j))) then 155 else 151)) (F' := ([some (.ref 43), some (.int (nI e)), some (.int q), some (.int 1), some (.int (nI j)), some (.int (nI (100 * e + 3 * j))), none, none, none, none, none], [], mjH I X)) (fun _ => rfl) ?_
        refine mjGo.br (fun q3 => ?_) (fun q3 => ?_)
        · show mjGo _ _ 155 _ _
          refine mjGo.run 4 (pc' := 76) (F' := ([some (.ref 43), some (.int (nI e)), some (.int q), some (.int 0), some (.int ((nI j) + 1)), some (.int (nI (100 * e + 3 * j))), none, none, none, none, none], [], mjH I X)) (fun _ => rfl) ?_
          rw [nI_1]
          exact m_lr_dead he hz hs hm (g2 (alB_f (p := thB (fun j => I 69 (100 * e + j))) (thB_3 (Int32.not_lt.mpr q3)))) (j + 1)
        · show mjGo _ _ 151 _ _
          refine mjGo.run 5 (pc' := 76) (F' := ([some (.ref 43), some (.int (nI e)), some (.int q), some (.int 1), some (.int ((nI j) + 1)), some (.int (nI (100 * e + 3 * j))), none, none, none, none, none], [], mjH I X)) (fun _ => rfl) ?_
          have k9 := ih (j + 1) (some (.int (nI (100 * e + 3 * j)))) (by omega) (fun w => g1 ((alB_t (thB_4 (f := (fun j => I 69 (100 * e + j))) q1 q2 (Int32.not_le.mp q3))).trans w)) (fun w => g2 ((alB_t (thB_4 (f := (fun j => I 69 (100 * e + j))) q1 q2 (Int32.not_le.mp q3))).trans w))
          rw [← nI_1] at k9
          exact k9
theorem m_ft_0 {d e sz m : Nat} {n : Nat} {q ml mg v : Int32} {I : Nat → Nat → Int32} {X : MX} {r : MO × MH → Prop} (he : e < 8) (hz : I 68 e = nI sz) (hs : sz ≤ 100) (hm : sz = 3 * m) (g : ∀ o9 o10, mjGo (d + 3) nyX12_learn 271 ([some (.ref 43), some (.int (nI e)), some (.int q), some (.int 1), some (.int (nI n)), some (.int ml), some (.int mg), some (.int v), some (.int 0), o9, o10], [], mjH I X) r) : ∀ (k j : Nat) (o10 : Option Value), j + k = m → mjGo (d + 3) nyX12_learn 196 ([some (.ref 43), some (.int (nI e)), some (.int q), some (.int 1), some (.int (nI n)), some (.int ml), some (.int mg), some (.int v), some (.int 0), some (.int (nI j)), o10], [], mjH I X) r := by
  intro k
  induction k with
  | zero =>
    intro j o10 hj
    refine mjGo.run 4 (pc' := 203) (F' := ([some (.ref 43), some (.int (nI e)), some (.int q), some (.int 1), some (.int (nI n)), some (.int ml), some (.int mg), some (.int v), some (.int 0), some (.int (nI j)), o10], [.int (nI e), .ref 68, .int (nI j)], mjH I X)) (fun _ => rfl) ?_
    refine mjGo.op (pc' := 204) (F' := ([some (.ref 43), some (.int (nI e)), some (.int q), some (.int 1), some (.int (nI n)), some (.int ml), some (.int mg), some (.int v), some (.int 0), some (.int (nI j)), o10], [.int (I 68 e), .int (nI j)], mjH I X)) (o := mjiald 204) rfl (fun _ => mjald_n (n := 8) (by omega) (by decide) (rfl) (rfl)) ?_
    refine mjGo.run 2 (pc' := 206) (F' := ([some (.ref 43), some (.int (nI e)), some (.int q), some (.int 1), some (.int (nI n)), some (.int ml), some (.int mg), some (.int v), some (.int 0), some (.int (nI j)), o10], [.int ((I 68 e) / 3), .int (nI j)], mjH I X)) (fun _ => rfl) ?_
    refine mjGo.run 1 (pc' := (bif decide (((I 68 e) / 3) ≤ (nI j)) then 271 else 209)) (F' := ([some (.ref 43), some (.int (nI e)), some (.int q), some (.int 1), some (.int (nI n)), some (.int ml), some (.int mg), some (.int v), some (.int 0), some (.int (nI j)), o10], [], mjH I X)) (fun _ => rfl) ?_
    refine mjGo.brT (by rw [hz, dv3 hs, nI_leI (by omega) (by omega)]; omega) ?_
    show mjGo _ _ 271 _ _
    exact g _ _
  | succ k ih =>
    intro j o10 hj
    refine mjGo.run 4 (pc' := 203) (F' := ([some (.ref 43), some (.int (nI e)), some (.int q), some (.int 1), some (.int (nI n)), some (.int ml), some (.int mg), some (.int v), some (.int 0), some (.int (nI j)), o10], [.int (nI e), .ref 68, .int (nI j)], mjH I X)) (fun _ => rfl) ?_
    refine mjGo.op (pc' := 204) (F' := ([some (.ref 43), some (.int (nI e)), some (.int q), some (.int 1), some (.int (nI n)), some (.int ml), some (.int mg), some (.int v), some (.int 0), some (.int (nI j)), o10], [.int (I 68 e), .int (nI j)], mjH I X)) (o := mjiald 204) rfl (fun _ => mjald_n (n := 8) (by omega) (by decide) (rfl) (rfl)) ?_
    refine mjGo.run 2 (pc' := 206) (F' := ([some (.ref 43), some (.int (nI e)), some (.int q), some (.int 1), some (.int (nI n)), some (.int ml), some (.int mg), some (.int v), some (.int 0), some (.int (nI j)), o10], [.int ((I 68 e) / 3), .int (nI j)], mjH I X)) (fun _ => rfl) ?_
    refine mjGo.run 1 (pc' := (bif decide (((I 68 e) / 3) ≤ (nI j)) then 271 else 209)) (F' := ([some (.ref 43), some (.int (nI e)), some (.int q), some (.int 1), some (.int (nI n)), some (.int ml), some (.int mg), some (.int v), some (.int 0), some (.int (nI j)), o10], [], mjH I X)) (fun _ => rfl) ?_
    refine mjGo.brF (by rw [hz, dv3 hs, nI_leI (by omega) (by omega)]; omega) ?_
    show mjGo _ _ 209 _ _
    refine mjGo.run 7 (pc' := 218) (F' := ([some (.ref 43), some (.int (nI e)), some (.int q), some (.int 1), some (.int (nI n)), some (.int ml), some (.int mg), some (.int v), some (.int 0), some (.int (nI j)), o10], [.int ((100 * (nI e)) + (3 * (nI j)))], mjH I X)) (fun _ => rfl) ?_
    refine mjGo.run 0 (pc' := 218) (F' := ([some (.ref 43), some (.int (nI e)), some (.int q), some (.int 1), some (.int (nI n)), some (.int ml), some (.int mg), some (.int v), some (.int 0), some (.int (nI j)), o10], [.int ((100 * (nI e)) + (3 * (nI j)))], mjH I X)) (fun _ => rfl) ?_
    rw [show ((100 * (nI e)) + (3 * (nI j))) = (nI (100 * e + 3 * j)) from id3]
    refine mjGo.run 7 (pc' := 196) (F' := ([some (.ref 43), some (.int (nI e)), some (.int q), some (.int 1), some (.int (nI n)), some (.int ml), some (.int mg), some (.int v), some (.int 0), some (.int ((nI j) + 1)), some (.int (nI (100 * e + 3 * j)))], [], mjH I X)) (fun _ => rfl) ?_
    have k9 := ih (j + 1) (some (.int (nI (100 * e + 3 * j)))) (by omega)
    rw [← nI_1] at k9
    exact k9
theorem m_ft_1 {d e sz m : Nat} {n : Nat} {q ml mg v : Int32} {I : Nat → Nat → Int32} {X : MX} {r : MO × MH → Prop} (he : e < 8) (hz : I 68 e = nI sz) (hs : sz ≤ 100) (hm : sz = 3 * m) (g0 : alB (cbB (fun j => I 69 (100 * e + j)) v) m 0 = false → ∀ o9 o10, mjGo (d + 3) nyX12_learn 271 ([some (.ref 43), some (.int (nI e)), some (.int q), some (.int 1), some (.int (nI n)), some (.int ml), some (.int mg), some (.int v), some (.int 0), o9, o10], [], mjH I X) r) (g1 : alB (cbB (fun j => I 69 (100 * e + j)) v) m 0 = true → ∀ o9 o10, mjGo (d + 3) nyX12_learn 271 ([some (.ref 43), some (.int (nI e)), some (.int q), some (.int 1), some (.int (nI n)), some (.int ml), some (.int mg), some (.int v), some (.int 1), o9, o10], [], mjH I X) r) : ∀ (k j : Nat) (o10 : Option Value), j + k = m → alB (cbB (fun j => I 69 (100 * e + j)) v) k j = alB (cbB (fun j => I 69 (100 * e + j)) v) m 0 → mjGo (d + 3) nyX12_learn 196 ([some (.ref 43), some (.int (nI e)), some (.int q), some (.int 1), some (.int (nI n)), some (.int ml), some (.int mg), some (.int v), some (.int 1), some (.int (nI j)), o10], [], mjH I X) r := by
  intro k
  induction k with
  | zero =>
    intro j o10 hj ha
    refine mjGo.run 4 (pc' := 203) (F' := ([some (.ref 43), some (.int (nI e)), some (.int q), some (.int 1), some (.int (nI n)), some (.int ml), some (.int mg), some (.int v), some (.int 1), some (.int (nI j)), o10], [.int (nI e), .ref 68, .int (nI j)], mjH I X)) (fun _ => rfl) ?_
    refine mjGo.op (pc' := 204) (F' := ([some (.ref 43), some (.int (nI e)), some (.int q), some (.int 1), some (.int (nI n)), some (.int ml), some (.int mg), some (.int v), some (.int 1), some (.int (nI j)), o10], [.int (I 68 e), .int (nI j)], mjH I X)) (o := mjiald 204) rfl (fun _ => mjald_n (n := 8) (by omega) (by decide) (rfl) (rfl)) ?_
    refine mjGo.run 2 (pc' := 206) (F' := ([some (.ref 43), some (.int (nI e)), some (.int q), some (.int 1), some (.int (nI n)), some (.int ml), some (.int mg), some (.int v), some (.int 1), some (.int (nI j)), o10], [.int ((I 68 e) / 3), .int (nI j)], mjH I X)) (fun _ => rfl) ?_
    refine mjGo.run 1 (pc' := (bif decide (((I 68 e) / 3) ≤ (nI j)) then 271 else 209)) (F' := ([some (.ref 43), some (.int (nI e)), some (.int q), some (.int 1), some (.int (nI n)), some (.int ml), some (.int mg), some (.int v), some (.int 1), some (.int (nI j)), o10], [], mjH I X)) (fun _ => rfl) ?_
    refine mjGo.brT (by rw [hz, dv3 hs, nI_leI (by omega) (by omega)]; omega) ?_
    show mjGo _ _ 271 _ _
    exact g1 (ha.symm.trans rfl) _ _
  | succ k ih =>
    intro j o10 hj ha
    refine mjGo.run 4 (pc' := 203) (F' := ([some (.ref 43), some (.int (nI e)), some (.int q), some (.int 1), some (.int (nI n)), some (.int ml), some (.int mg), some (.int v), some (.int 1), some (.int (nI j)), o10], [.int (nI e), .ref 68, .int (nI j)], mjH I X)) (fun _ => rfl) ?_
    refine mjGo.op (pc' := 204) (F' := ([some (.ref 43), some (.int (nI e)), some (.int q), some (.int 1), some (.int (nI n)), some (.int ml), some (.int mg), some (.int v), some (.int 1), some (.int (nI j)), o10], [.int (I 68 e), .int (nI j)], mjH I X)) (o := mjiald 204) rfl (fun _ => mjald_n (n := 8) (by omega) (by decide) (rfl) (rfl)) ?_
    refine mjGo.run 2 (pc' := 206) (F' := ([some (.ref 43), some (.int (nI e)), some (.int q), some (.int 1), some (.int (nI n)), some (.int ml), some (.int mg), some (.int v), some (.int 1), some (.int (nI j)), o10], [.int ((I 68 e) / 3), .int (nI j)], mjH I X)) (fun _ => rfl) ?_
    refine mjGo.run 1 (pc' := (bif decide (((I 68 e) / 3) ≤ (nI j)) then 271 else 209)) (F' := ([some (.ref 43), some (.int (nI e)), some (.int q), some (.int 1), some (.int (nI n)), some (.int ml), some (.int mg), some (.int v), some (.int 1), some (.int (nI j)), o10], [], mjH I X)) (fun _ => rfl) ?_
    refine mjGo.brF (by rw [hz, dv3 hs, nI_leI (by omega) (by omega)]; omega) ?_
    show mjGo _ _ 209 _ _
    refine mjGo.run 7 (pc' := 218) (F' := ([some (.ref 43), some (.int (nI e)), some (.int q), some (.int 1), some (.int (nI n)), some (.int ml), some (.int mg), some (.int v), some (.int 1), some (.int (nI j)), o10], [.int ((100 * (nI e)) + (3 * (nI j)))], mjH I X)) (fun _ => rfl) ?_
    refine mjGo.run 0 (pc' := 218) (F' := ([some (.ref 43), some (.int (nI e)), some (.int q), some (.int 1), some (.int (nI n)), some (.int ml), some (.int mg), some (.int v), some (.int 1), some (.int (nI j)), o10], [.int ((100 * (nI e)) + (3 * (nI j)))], mjH I X)) (fun _ => rfl) ?_
    rw [show ((100 * (nI e)) + (3 * (nI j))) = (nI (100 * e + 3 * j)) from id3]
    refine mjGo.run 7 (pc' := 233) (F' := ([some (.ref 43), some (.int (nI e)), some (.int q), some (.int 1), some (.int (nI n)), some (.int ml), some (.int mg), some (.int v), some (.int 1), some (.int (nI j)), some (.int (nI (100 * e + 3 * j)))], [.int (nI (100 * e + 3 * j)), .ref 69, .int v], mjH I X)) (fun _ => rfl) ?_
    refine mjGo.op (pc' := 234) (F' := ([some (.ref 43), some (.int (nI e)), some (.int q), some (.int 1), some (.int (nI n)), some (.int ml), some (.int mg), some (.int v), some (.int 1), some (.int (nI j)), some (.int (nI (100 * e + 3 * j)))], [.int (I 69 (100 * e + 3 * j)), .int v], mjH I X)) (o := mjiald 234) rfl (fun _ => mjald_n (n := 800) (by omega) (by decide) (rfl) (rfl)) ?_
    refine mjGo.run 5 (pc' := 242) (F' := ([some (.ref 43), some (.int (nI e)), some (.int q), some (.int 1), some (.int (nI n)), some (.int ml), some (.int mg), some (.int v), some (.int 1), some (.int (nI j)), some (.int (nI (100 * e + 3 * j)))], [.int ((nI (100 * e + 3 * j)) + 1), .ref 69, .int (I 69 (100 * e + 3 * j)), .int v], mjH I X)) (fun _ => rfl) ?_
    refine mjGo.run 0 (pc' := 242) (F' := ([some (.ref 43), some (.int (nI e)), some (.int q), some (.int 1), some (.int (nI n)), some (.int ml), some (.int mg), some (.int v), some (.int 1), some (.int (nI j)), some (.int (nI (100 * e + 3 * j)))], [.int ((nI (100 * e + 3 * j)) + 1), .ref 69, .int (I 69 (100 * e + 3 * j)), .int v], mjH I X)) (fun _ => rfl) ?_
    rw [show ((nI (100 * e + 3 * j)) + 1) = (nI (100 * e + (3 * j + 1))) from nI_add _ 1]
    refine mjGo.op (pc' := 243) (F' := ([some (.ref 43), some (.int (nI e)), some (.int q), some (.int 1), some (.int (nI n)), some (.int ml), some (.int mg), some (.int v), some (.int 1), some (.int (nI j)), some (.int (nI (100 * e + 3 * j)))], [.int (I 69 (100 * e + (3 * j + 1))), .int (I 69 (100 * e + 3 * j)), .int v], mjH I X)) (o := mjiald 243) rfl (fun _ => mjald_n (n := 800) (by omega) (by decide) (rfl) (rfl)) ?_
    refine mjGo.call (n := 3) (j := 146) (nx := 246) (o := some (.int (mTho v (I 69 (100 * e + 3 * j)) (I 69 (100 * e + (3 * j + 1)))))) (h' := mjH I X) (fun _ => rfl) (c_mTho (d + 2) v (I 69 (100 * e + 3 * j)) (I 69 (100 * e + (3 * j + 1))) _) ?_
    show mjGo _ _ 246 ([some (.ref 43), some (.int (nI e)), some (.int q), some (.int 1), some (.int (nI n)), some (.int ml), some (.int mg), some (.int v), some (.int 1), some (.int (nI j)), some (.int (nI (100 * e + 3 * j)))], [.int (mTho v (I 69 (100 * e + 3 * j)) (I 69 (100 * e + (3 * j + 1))))], mjH I X) _
    refine mjGo.run 5 (pc' := 254) (F' := ([some (.ref 43), some (.int (nI e)), some (.int q), some (.int 1), some (.int (nI n)), some (.int ml), some (.int mg), some (.int v), some (.int 1), some (.int (nI j)), some (.int (nI (100 * e + 3 * j)))], [.int ((nI (100 * e + 3 * j)) + 2), .ref 69, .int (mTho v (I 69 (100 * e + 3 * j)) (I 69 (100 * e + (3 * j + 1))))], mjH I X)) (fun _ => rfl) ?_
    refine mjGo.run 0 (pc' := 254) (F' := ([some (.ref 43), some (.int (nI e)), some (.int q), some (.int 1), some (.int (nI n)), some (.int ml), some (.int mg), some (.int v), some (.int 1), some (.int (nI j)), some (.int (nI (100 * e + 3 * j)))], [.int ((nI (100 * e + 3 * j)) + 2), .ref 69, .int (mTho v (I 69 (100 * e + 3 * j)) (I 69 (100 * e + (3 * j + 1))))], mjH I X)) (fun _ => rfl) ?_
    rw [show ((nI (100 * e + 3 * j)) + 2) = (nI (100 * e + (3 * j + 2))) from nI_add _ 2]
    refine mjGo.op (pc' := 255) (F' := ([some (.ref 43), some (.int (nI e)), some (.int q), some (.int 1), some (.int (nI n)), some (.int ml), some (.int mg), some (.int v), some (.int 1), some (.int (nI j)), some (.int (nI (100 * e + 3 * j)))], [.int (I 69 (100 * e + (3 * j + 2))), .int (mTho v (I 69 (100 * e + 3 * j)) (I 69 (100 * e + (3 * j + 1))))], mjH I X)) (o := mjiald 255) rfl (fun _ => mjald_n (n := 800) (by omega) (by decide) (rfl) (rfl)) ?_
    refine mjGo.run 1 (pc' := (bif decide ((mTho v (I 69 (100 * e + 3 * j)) (I 69 (100 * e + (3 * j + 1)))) ≠ (I 69 (100 * e + (3 * j + 2)))) then 262 else 258)) (F' := ([some (.ref 43), some (.int (nI e)), some (.int q), some (.int 1), some (.int (nI n)), some (.int ml), some (.int mg), some (.int v), some (.int 1), some (.int (nI j)), some (.int (nI (100 * e + 3 * j)))], [], mjH I X)) (fun _ => rfl) ?_
    refine mjGo.br (fun q1 => ?_) (fun q1 => ?_)
    · show mjGo _ _ 262 _ _
      refine mjGo.run 4 (pc' := 196) (F' := ([some (.ref 43), some (.int (nI e)), some (.int q), some (.int 1), some (.int (nI n)), some (.int ml), some (.int mg), some (.int v), some (.int 0), some (.int ((nI j) + 1)), some (.int (nI (100 * e + 3 * j)))], [], mjH I X)) (fun _ => rfl) ?_
      have k9 := m_ft_0 he hz hs hm (g0 (ha.symm.trans (alB_f (p := (cbB (fun j => I 69 (100 * e + j)) v)) (decide_eq_false q1)))) k (j + 1) (some (.int (nI (100 * e + 3 * j)))) (by omega)
      rw [← nI_1] at k9
      exact k9
    · show mjGo _ _ 258 _ _
      refine mjGo.run 5 (pc' := 196) (F' := ([some (.ref 43), some (.int (nI e)), some (.int q), some (.int 1), some (.int (nI n)), some (.int ml), some (.int mg), some (.int v), some (.int 1), some (.int ((nI j) + 1)), some (.int (nI (100 * e + 3 * j)))], [], mjH I X)) (fun _ => rfl) ?_
      have k9 := ih (j + 1) (some (.int (nI (100 * e + 3 * j)))) (by omega) ((alB_t (p := (cbB (fun j => I 69 (100 * e + j)) v)) (decide_eq_true (Decidable.not_not.mp q1))).symm.trans ha)
      rw [← nI_1] at k9
      exact k9
theorem m_lr_loop {d e sz m : Nat} {q : Int32} {I : Nat → Nat → Int32} {X : MX} (he : e < 8) (hz : I 68 e = nI sz) (hs : sz ≤ 100) (hm : sz = 3 * m) : ∀ (k j n a b : Nat) (ml mg : Int32) (o8 o9 o10 : Option Value), j + k = 41 → n ≤ j → (n ≠ 0 → (a < 42 ∧ ml = vI a) ∧ (b < 42 ∧ mg = vI b)) →
    mjGo (d + 3) nyX12_learn 183 ([some (.ref 43), some (.int (nI e)), some (.int q), some (.int 1), some (.int (nI n)), some (.int ml), some (.int mg), some (.int (vI j)), o8, o9, o10], [], mjH I X) (fun x => x = (.inl (some (.int (lrV (fun j => alB (cbB (fun j => I 69 (100 * e + j)) (vI j)) m 0) q k j n a b))), mjH I X)) := by
  intro k
  induction k with
  | zero =>
    intro j n a b ml mg o8 o9 o10 hj hn h1
    refine mjGo.run 2 (pc' := 187) (F' := ([some (.ref 43), some (.int (nI e)), some (.int q), some (.int 1), some (.int (nI n)), some (.int ml), some (.int mg), some (.int (vI j)), o8, o9, o10], [.int 20, .int (vI j)], mjH I X)) (fun _ => rfl) ?_
    refine mjGo.run 1 (pc' := (bif decide (20 < (vI j)) then 303 else 190)) (F' := ([some (.ref 43), some (.int (nI e)), some (.int q), some (.int 1), some (.int (nI n)), some (.int ml), some (.int mg), some (.int (vI j)), o8, o9, o10], [], mjH I X)) (fun _ => rfl) ?_
    refine mjGo.brT ((vI_lt (by omega)).mpr (by omega)) ?_
    show mjGo _ _ 303 _ _
    refine mjGo.run 2 (pc' := (bif decide (q ≠ 0) then 312 else 307)) (F' := ([some (.ref 43), some (.int (nI e)), some (.int q), some (.int 1), some (.int (nI n)), some (.int ml), some (.int mg), some (.int (vI j)), o8, o9, o10], [], mjH I X)) (fun _ => rfl) ?_
    refine mjGo.br (fun q1 => ?_) (fun q1 => ?_)
    · show mjGo _ _ 312 _ _
      refine mjGo.run 2 (pc' := (bif decide ((nI n) ≠ 0) then 322 else 317)) (F' := ([some (.ref 43), some (.int (nI e)), some (.int q), some (.int 1), some (.int (nI n)), some (.int ml), some (.int mg), some (.int (vI j)), o8, o9, o10], [], mjH I X)) (fun _ => rfl) ?_
      refine mjGo.br (fun q2 => ?_) (fun q2 => ?_)
      · show mjGo _ _ 322 _ _
        refine mjGo.run 4 (pc' := (bif decide (q ≠ 1) then 334 else 329)) (F' := ([some (.ref 43), some (.int (nI e)), some (.int q), some (.int 1), some (.int (nI n)), some (.int ml), some (.int mg), some (.int (vI j)), o8, o9, o10], [.int 20], mjH I X)) (fun _ => rfl) ?_
        refine mjGo.br (fun q3 => ?_) (fun q3 => ?_)
        · show mjGo _ _ 334 _ _
          have w := q2
          rw [ne_eq, show (0 : Int32) = nI 0 from rfl, nI_eq (by omega) (by omega)] at w
          rw [lrV, if_neg q1, if_neg w, if_neg q3, ← vI_02 (h1 w).2.1, ← (h1 w).2.2]
          exact mjGo.ret 3 (fun _ => rfl) rfl
        · show mjGo _ _ 329 _ _
          have w := q2
          rw [ne_eq, show (0 : Int32) = nI 0 from rfl, nI_eq (by omega) (by omega)] at w
          rw [lrV, if_neg q1, if_neg w, if_pos (Decidable.not_not.mp q3), ← vI_02 (h1 w).1.1, ← (h1 w).1.2]
          exact mjGo.ret 4 (fun _ => rfl) rfl
      · show mjGo _ _ 317 _ _
        have w := q2
        rw [ne_eq, show (0 : Int32) = nI 0 from rfl, nI_eq (by omega) (by omega)] at w
        rw [lrV, if_neg q1, if_pos (Decidable.not_not.mp w)]
        exact mjGo.ret 3 (fun _ => rfl) rfl
    · show mjGo _ _ 307 _ _
      rw [lrV, if_pos (Decidable.not_not.mp q1)]
      exact mjGo.ret 3 (fun _ => rfl) rfl
  | succ k ih =>
    intro j n a b ml mg o8 o9 o10 hj hn h1
    have hj2 : j < 42 := by omega
    refine mjGo.run 2 (pc' := 187) (F' := ([some (.ref 43), some (.int (nI e)), some (.int q), some (.int 1), some (.int (nI n)), some (.int ml), some (.int mg), some (.int (vI j)), o8, o9, o10], [.int 20, .int (vI j)], mjH I X)) (fun _ => rfl) ?_
    refine mjGo.run 1 (pc' := (bif decide (20 < (vI j)) then 303 else 190)) (F' := ([some (.ref 43), some (.int (nI e)), some (.int q), some (.int 1), some (.int (nI n)), some (.int ml), some (.int mg), some (.int (vI j)), o8, o9, o10], [], mjH I X)) (fun _ => rfl) ?_
    refine mjGo.brF (by rw [vI_lt hj2]; omega) ?_
    show mjGo _ _ 190 _ _
    refine mjGo.run 4 (pc' := 196) (F' := ([some (.ref 43), some (.int (nI e)), some (.int q), some (.int 1), some (.int (nI n)), some (.int ml), some (.int mg), some (.int (vI j)), some (.int 1), some (.int 0), o10], [], mjH I X)) (fun _ => rfl) ?_
    refine m_ft_1 (d := d) (v := vI j) he hz hs hm (fun w o9 o10 => ?_) (fun w o9 o10 => ?_) m 0 _ (by omega) rfl
    · refine mjGo.run 4 (pc' := 183) (F' := ([some (.ref 43), some (.int (nI e)), some (.int q), some (.int 1), some (.int (nI n)), some (.int ml), some (.int mg), some (.int ((vI j) + 1)), some (.int 0), o9, o10], [], mjH I X)) (fun _ => rfl) ?_
      have k9 := ih (j + 1) n a b ml mg (some (.int 0)) o9 o10 (by omega) (by omega) h1
      rw [← vI_1 hj2] at k9
      rw [lrV, w, if_neg (by decide)]
      exact k9
    · refine mjGo.run 4 (pc' := (bif decide ((nI n) ≠ 0) then 286 else 281)) (F' := ([some (.ref 43), some (.int (nI e)), some (.int q), some (.int 1), some (.int (nI n)), some (.int ml), some (.int mg), some (.int (vI j)), some (.int 1), o9, o10], [], mjH I X)) (fun _ => rfl) ?_
      refine mjGo.br (fun q1 => ?_) (fun q1 => ?_)
      · show mjGo _ _ 286 _ _
        refine mjGo.run 7 (pc' := 183) (F' := ([some (.ref 43), some (.int (nI e)), some (.int q), some (.int 1), some (.int ((nI n) + 1)), some (.int ml), some (.int (vI j)), some (.int ((vI j) + 1)), some (.int 1), o9, o10], [], mjH I X)) (fun _ => rfl) ?_
        have w2 : n ≠ 0 := by have q8 := q1; rw [ne_eq, show (0 : Int32) = nI 0 from rfl, nI_eq (by omega) (by omega)] at q8; exact q8
        have k9 := ih (j + 1) (n + 1) a j ml (vI j) (some (.int 1)) o9 o10 (by omega) (by omega) (fun _ => ⟨(h1 w2).1, hj2, rfl⟩)
        rw [← vI_1 hj2, ← nI_1] at k9
        rw [lrV, w, if_pos rfl, if_neg w2]
        exact k9
      · show mjGo _ _ 281 _ _
        refine mjGo.run 8 (pc' := 183) (F' := ([some (.ref 43), some (.int (nI e)), some (.int q), some (.int 1), some (.int ((nI n) + 1)), some (.int (vI j)), some (.int (vI j)), some (.int ((vI j) + 1)), some (.int 1), o9, o10], [], mjH I X)) (fun _ => rfl) ?_
        have w2 : n = 0 := by have q8 := Decidable.not_not.mp q1; rw [show (0 : Int32) = nI 0 from rfl, nI_eq (by omega) (by omega)] at q8; exact q8
        have k9 := ih (j + 1) (n + 1) j j (vI j) (vI j) (some (.int 1)) o9 o10 (by omega) (by omega) (fun _ => ⟨⟨hj2, rfl⟩, hj2, rfl⟩)
        rw [← vI_1 hj2, ← nI_1] at k9
        rw [lrV, w, if_pos rfl, if_pos w2]
        exact k9
theorem c_mLnA (d : Nat) {p q : Int32} {I : Nat → Nat → Int32} {X : MX} (hq : mIn q 0 2 = 0) : mjEv (d + 4) nyX12_learn [.ref 43, .int p, .int q] (mjH I X) (.inl (some (.int (-1)))) (mjH I X) := by
  refine mjEv.of ?_
  show mjGo (d + 4) nyX12_learn 0 ([some (.ref 43), some (.int p), some (.int q), none, none, none, none, none, none, none, none], [], mjH I X) _
  refine mjGo.run 3 (pc' := 4) (F' := ([some (.ref 43), some (.int p), some (.int q), none, none, none, none, none, none, none, none], [.int 7, .int 0, .int p], mjH I X)) (fun _ => rfl) ?_
  refine mjGo.call (n := 3) (j := 132) (nx := 7) (o := some (.int (mIn p 0 7))) (h' := mjH I X) (fun _ => rfl) (c_mIn (d + 3) p 0 7 _) ?_
  show mjGo _ _ 7 ([some (.ref 43), some (.int p), some (.int q), none, none, none, none, none, none, none, none], [.int (mIn p 0 7)], mjH I X) _
  refine mjGo.run 1 (pc' := (bif decide ((mIn p 0 7) = 0) then 19 else 10)) (F' := ([some (.ref 43), some (.int p), some (.int q), none, none, none, none, none, none, none, none], [], mjH I X)) (fun _ => rfl) ?_
  refine mjGo.br (fun q1 => ?_) (fun q1 => ?_)
  · show mjGo _ _ 19 _ _
    exact mjGo.ret 2 (fun _ => rfl) rfl
  · show mjGo _ _ 10 _ _
    refine mjGo.run 3 (pc' := 13) (F' := ([some (.ref 43), some (.int p), some (.int q), none, none, none, none, none, none, none, none], [.int 2, .int 0, .int q], mjH I X)) (fun _ => rfl) ?_
    refine mjGo.call (n := 3) (j := 132) (nx := 16) (o := some (.int (mIn q 0 2))) (h' := mjH I X) (fun _ => rfl) (c_mIn (d + 3) q 0 2 _) ?_
    show mjGo _ _ 16 ([some (.ref 43), some (.int p), some (.int q), none, none, none, none, none, none, none, none], [.int (mIn q 0 2)], mjH I X) _
    refine mjGo.run 1 (pc' := (bif decide ((mIn q 0 2) ≠ 0) then 21 else 19)) (F' := ([some (.ref 43), some (.int p), some (.int q), none, none, none, none, none, none, none, none], [], mjH I X)) (fun _ => rfl) ?_
    refine mjGo.br (fun q2 => ?_) (fun q2 => ?_)
    · show mjGo _ _ 21 _ _
      exact absurd hq q2
    · show mjGo _ _ 19 _ _
      exact mjGo.ret 2 (fun _ => rfl) rfl
theorem c_mLnB (d : Nat) {p q : Int32} {I : Nat → Nat → Int32} {X : MX} (hs : mIn p 0 7 = 0) : mjEv (d + 4) nyX12_learn [.ref 43, .int p, .int q] (mjH I X) (.inl (some (.int (-1)))) (mjH I X) := by
  refine mjEv.of ?_
  show mjGo (d + 4) nyX12_learn 0 ([some (.ref 43), some (.int p), some (.int q), none, none, none, none, none, none, none, none], [], mjH I X) _
  refine mjGo.run 3 (pc' := 4) (F' := ([some (.ref 43), some (.int p), some (.int q), none, none, none, none, none, none, none, none], [.int 7, .int 0, .int p], mjH I X)) (fun _ => rfl) ?_
  refine mjGo.call (n := 3) (j := 132) (nx := 7) (o := some (.int 0)) (h' := mjH I X) (fun _ => rfl) ((by have q9 := c_mIn (d + 3) p 0 7 (mjH I X); rw [hs] at q9; exact q9)) ?_
  show mjGo _ _ 7 ([some (.ref 43), some (.int p), some (.int q), none, none, none, none, none, none, none, none], [.int 0], mjH I X) _
  exact mjGo.ret 3 (fun _ => rfl) rfl
theorem c_mLnC (d : Nat) {e : Nat} {q : Int32} {I : Nat → Nat → Int32} {X : MX} (hq : mIn q 0 2 = 1) (he : e < 8) (hh : I 66 e = 0) : mjEv (d + 4) nyX12_learn [.ref 43, .int (nI e), .int q] (mjH I X) (.inl (some (.int (-11)))) (mjH I X) := by
  refine mjEv.of ?_
  show mjGo (d + 4) nyX12_learn 0 ([some (.ref 43), some (.int (nI e)), some (.int q), none, none, none, none, none, none, none, none], [], mjH I X) _
  refine mjGo.run 3 (pc' := 4) (F' := ([some (.ref 43), some (.int (nI e)), some (.int q), none, none, none, none, none, none, none, none], [.int 7, .int 0, .int (nI e)], mjH I X)) (fun _ => rfl) ?_
  refine mjGo.call (n := 3) (j := 132) (nx := 7) (o := some (.int 1)) (h' := mjH I X) (fun _ => rfl) ((by have q9 := c_mIn (d + 3) (nI e) 0 7 (mjH I X); rw [mShelf_1 he] at q9; exact q9)) ?_
  show mjGo _ _ 7 ([some (.ref 43), some (.int (nI e)), some (.int q), none, none, none, none, none, none, none, none], [.int 1], mjH I X) _
  refine mjGo.run 4 (pc' := 13) (F' := ([some (.ref 43), some (.int (nI e)), some (.int q), none, none, none, none, none, none, none, none], [.int 2, .int 0, .int q], mjH I X)) (fun _ => rfl) ?_
  refine mjGo.call (n := 3) (j := 132) (nx := 16) (o := some (.int 1)) (h' := mjH I X) (fun _ => rfl) ((by have q9 := c_mIn (d + 3) q 0 2 (mjH I X); rw [hq] at q9; exact q9)) ?_
  show mjGo _ _ 16 ([some (.ref 43), some (.int (nI e)), some (.int q), none, none, none, none, none, none, none, none], [.int 1], mjH I X) _
  refine mjGo.run 4 (pc' := 26) (F' := ([some (.ref 43), some (.int (nI e)), some (.int q), none, none, none, none, none, none, none, none], [.int (nI e), .ref 66], mjH I X)) (fun _ => rfl) ?_
  refine mjGo.op (pc' := 27) (F' := ([some (.ref 43), some (.int (nI e)), some (.int q), none, none, none, none, none, none, none, none], [.int (I 66 e)], mjH I X)) (o := mjiald 27) rfl (fun _ => mjald_n (n := 8) (by omega) (by decide) (rfl) (rfl)) ?_
  refine mjGo.run 0 (pc' := 27) (F' := ([some (.ref 43), some (.int (nI e)), some (.int q), none, none, none, none, none, none, none, none], [.int (I 66 e)], mjH I X)) (fun _ => rfl) ?_
  rw [hh]
  exact mjGo.ret 3 (fun _ => rfl) rfl
theorem c_mLnD (d : Nat) {e : Nat} {q : Int32} {I : Nat → Nat → Int32} {X : MX} (hq : mIn q 0 2 = 1) (he : e < 8) (hh : I 66 e = 1) : mjEv (d + 4) nyX12_learn [.ref 43, .int (nI e), .int q] (mjH I X) (.inl (some (.int (-12)))) (mjH I X) := by
  refine mjEv.of ?_
  show mjGo (d + 4) nyX12_learn 0 ([some (.ref 43), some (.int (nI e)), some (.int q), none, none, none, none, none, none, none, none], [], mjH I X) _
  refine mjGo.run 3 (pc' := 4) (F' := ([some (.ref 43), some (.int (nI e)), some (.int q), none, none, none, none, none, none, none, none], [.int 7, .int 0, .int (nI e)], mjH I X)) (fun _ => rfl) ?_
  refine mjGo.call (n := 3) (j := 132) (nx := 7) (o := some (.int 1)) (h' := mjH I X) (fun _ => rfl) ((by have q9 := c_mIn (d + 3) (nI e) 0 7 (mjH I X); rw [mShelf_1 he] at q9; exact q9)) ?_
  show mjGo _ _ 7 ([some (.ref 43), some (.int (nI e)), some (.int q), none, none, none, none, none, none, none, none], [.int 1], mjH I X) _
  refine mjGo.run 4 (pc' := 13) (F' := ([some (.ref 43), some (.int (nI e)), some (.int q), none, none, none, none, none, none, none, none], [.int 2, .int 0, .int q], mjH I X)) (fun _ => rfl) ?_
  refine mjGo.call (n := 3) (j := 132) (nx := 16) (o := some (.int 1)) (h' := mjH I X) (fun _ => rfl) ((by have q9 := c_mIn (d + 3) q 0 2 (mjH I X); rw [hq] at q9; exact q9)) ?_
  show mjGo _ _ 16 ([some (.ref 43), some (.int (nI e)), some (.int q), none, none, none, none, none, none, none, none], [.int 1], mjH I X) _
  refine mjGo.run 4 (pc' := 26) (F' := ([some (.ref 43), some (.int (nI e)), some (.int q), none, none, none, none, none, none, none, none], [.int (nI e), .ref 66], mjH I X)) (fun _ => rfl) ?_
  refine mjGo.op (pc' := 27) (F' := ([some (.ref 43), some (.int (nI e)), some (.int q), none, none, none, none, none, none, none, none], [.int (I 66 e)], mjH I X)) (o := mjiald 27) rfl (fun _ => mjald_n (n := 8) (by omega) (by decide) (rfl) (rfl)) ?_
  refine mjGo.run 0 (pc' := 27) (F' := ([some (.ref 43), some (.int (nI e)), some (.int q), none, none, none, none, none, none, none, none], [.int (I 66 e)], mjH I X)) (fun _ => rfl) ?_
  rw [hh]
  refine mjGo.run 4 (pc' := 38) (F' := ([some (.ref 43), some (.int (nI e)), some (.int q), none, none, none, none, none, none, none, none], [.int (nI e), .ref 66], mjH I X)) (fun _ => rfl) ?_
  refine mjGo.op (pc' := 39) (F' := ([some (.ref 43), some (.int (nI e)), some (.int q), none, none, none, none, none, none, none, none], [.int (I 66 e)], mjH I X)) (o := mjiald 39) rfl (fun _ => mjald_n (n := 8) (by omega) (by decide) (rfl) (rfl)) ?_
  refine mjGo.run 0 (pc' := 39) (F' := ([some (.ref 43), some (.int (nI e)), some (.int q), none, none, none, none, none, none, none, none], [.int (I 66 e)], mjH I X)) (fun _ => rfl) ?_
  rw [hh]
  exact mjGo.ret 4 (fun _ => rfl) rfl
theorem c_mLnE (d : Nat) {e : Nat} {q : Int32} {I : Nat → Nat → Int32} {X : MX} (hq : mIn q 0 2 = 1) (he : e < 8) (hh : I 66 e = 2) (hq2 : ¬ I 67 e = 2) : mjEv (d + 4) nyX12_learn [.ref 43, .int (nI e), .int q] (mjH I X) (.inl (some (.int (-12)))) (mjH I X) := by
  refine mjEv.of ?_
  show mjGo (d + 4) nyX12_learn 0 ([some (.ref 43), some (.int (nI e)), some (.int q), none, none, none, none, none, none, none, none], [], mjH I X) _
  refine mjGo.run 3 (pc' := 4) (F' := ([some (.ref 43), some (.int (nI e)), some (.int q), none, none, none, none, none, none, none, none], [.int 7, .int 0, .int (nI e)], mjH I X)) (fun _ => rfl) ?_
  refine mjGo.call (n := 3) (j := 132) (nx := 7) (o := some (.int 1)) (h' := mjH I X) (fun _ => rfl) ((by have q9 := c_mIn (d + 3) (nI e) 0 7 (mjH I X); rw [mShelf_1 he] at q9; exact q9)) ?_
  show mjGo _ _ 7 ([some (.ref 43), some (.int (nI e)), some (.int q), none, none, none, none, none, none, none, none], [.int 1], mjH I X) _
  refine mjGo.run 4 (pc' := 13) (F' := ([some (.ref 43), some (.int (nI e)), some (.int q), none, none, none, none, none, none, none, none], [.int 2, .int 0, .int q], mjH I X)) (fun _ => rfl) ?_
  refine mjGo.call (n := 3) (j := 132) (nx := 16) (o := some (.int 1)) (h' := mjH I X) (fun _ => rfl) ((by have q9 := c_mIn (d + 3) q 0 2 (mjH I X); rw [hq] at q9; exact q9)) ?_
  show mjGo _ _ 16 ([some (.ref 43), some (.int (nI e)), some (.int q), none, none, none, none, none, none, none, none], [.int 1], mjH I X) _
  refine mjGo.run 4 (pc' := 26) (F' := ([some (.ref 43), some (.int (nI e)), some (.int q), none, none, none, none, none, none, none, none], [.int (nI e), .ref 66], mjH I X)) (fun _ => rfl) ?_
  refine mjGo.op (pc' := 27) (F' := ([some (.ref 43), some (.int (nI e)), some (.int q), none, none, none, none, none, none, none, none], [.int (I 66 e)], mjH I X)) (o := mjiald 27) rfl (fun _ => mjald_n (n := 8) (by omega) (by decide) (rfl) (rfl)) ?_
  refine mjGo.run 0 (pc' := 27) (F' := ([some (.ref 43), some (.int (nI e)), some (.int q), none, none, none, none, none, none, none, none], [.int (I 66 e)], mjH I X)) (fun _ => rfl) ?_
  rw [hh]
  refine mjGo.run 4 (pc' := 38) (F' := ([some (.ref 43), some (.int (nI e)), some (.int q), none, none, none, none, none, none, none, none], [.int (nI e), .ref 66], mjH I X)) (fun _ => rfl) ?_
  refine mjGo.op (pc' := 39) (F' := ([some (.ref 43), some (.int (nI e)), some (.int q), none, none, none, none, none, none, none, none], [.int (I 66 e)], mjH I X)) (o := mjiald 39) rfl (fun _ => mjald_n (n := 8) (by omega) (by decide) (rfl) (rfl)) ?_
  refine mjGo.run 0 (pc' := 39) (F' := ([some (.ref 43), some (.int (nI e)), some (.int q), none, none, none, none, none, none, none, none], [.int (I 66 e)], mjH I X)) (fun _ => rfl) ?_
  rw [hh]
  refine mjGo.run 5 (pc' := 48) (F' := ([some (.ref 43), some (.int (nI e)), some (.int q), none, none, none, none, none, none, none, none], [.int (nI e), .ref 67], mjH I X)) (fun _ => rfl) ?_
  refine mjGo.op (pc' := 49) (F' := ([some (.ref 43), some (.int (nI e)), some (.int q), none, none, none, none, none, none, none, none], [.int (I 67 e)], mjH I X)) (o := mjiald 49) rfl (fun _ => mjald_n (n := 8) (by omega) (by decide) (rfl) (rfl)) ?_
  refine mjGo.run 1 (pc' := 50) (F' := ([some (.ref 43), some (.int (nI e)), some (.int q), none, none, none, none, none, none, none, none], [.int 2, .int (I 67 e)], mjH I X)) (fun _ => rfl) ?_
  refine mjGo.run 1 (pc' := (bif decide ((I 67 e) = 2) then 56 else 53)) (F' := ([some (.ref 43), some (.int (nI e)), some (.int q), none, none, none, none, none, none, none, none], [], mjH I X)) (fun _ => rfl) ?_
  refine mjGo.brF (hq2) ?_
  show mjGo _ _ 53 _ _
  exact mjGo.ret 2 (fun _ => rfl) rfl
theorem c_mLnF (d : Nat) {e sz : Nat} {q : Int32} {I : Nat → Nat → Int32} {X : MX} (hq : mIn q 0 2 = 1) (he : e < 8) (hh : I 66 e = 2) (hq2 : I 67 e = 2) (hz : I 68 e = nI sz) (hs : sz ≤ 100) (hm : ¬ sz % 3 = 0) : mjEv (d + 4) nyX12_learn [.ref 43, .int (nI e), .int q] (mjH I X) (.inl (some (.int (-13)))) (mjH I X) := by
  refine mjEv.of ?_
  show mjGo (d + 4) nyX12_learn 0 ([some (.ref 43), some (.int (nI e)), some (.int q), none, none, none, none, none, none, none, none], [], mjH I X) _
  refine mjGo.run 3 (pc' := 4) (F' := ([some (.ref 43), some (.int (nI e)), some (.int q), none, none, none, none, none, none, none, none], [.int 7, .int 0, .int (nI e)], mjH I X)) (fun _ => rfl) ?_
  refine mjGo.call (n := 3) (j := 132) (nx := 7) (o := some (.int 1)) (h' := mjH I X) (fun _ => rfl) ((by have q9 := c_mIn (d + 3) (nI e) 0 7 (mjH I X); rw [mShelf_1 he] at q9; exact q9)) ?_
  show mjGo _ _ 7 ([some (.ref 43), some (.int (nI e)), some (.int q), none, none, none, none, none, none, none, none], [.int 1], mjH I X) _
  refine mjGo.run 4 (pc' := 13) (F' := ([some (.ref 43), some (.int (nI e)), some (.int q), none, none, none, none, none, none, none, none], [.int 2, .int 0, .int q], mjH I X)) (fun _ => rfl) ?_
  refine mjGo.call (n := 3) (j := 132) (nx := 16) (o := some (.int 1)) (h' := mjH I X) (fun _ => rfl) ((by have q9 := c_mIn (d + 3) q 0 2 (mjH I X); rw [hq] at q9; exact q9)) ?_
  show mjGo _ _ 16 ([some (.ref 43), some (.int (nI e)), some (.int q), none, none, none, none, none, none, none, none], [.int 1], mjH I X) _
  refine mjGo.run 4 (pc' := 26) (F' := ([some (.ref 43), some (.int (nI e)), some (.int q), none, none, none, none, none, none, none, none], [.int (nI e), .ref 66], mjH I X)) (fun _ => rfl) ?_
  refine mjGo.op (pc' := 27) (F' := ([some (.ref 43), some (.int (nI e)), some (.int q), none, none, none, none, none, none, none, none], [.int (I 66 e)], mjH I X)) (o := mjiald 27) rfl (fun _ => mjald_n (n := 8) (by omega) (by decide) (rfl) (rfl)) ?_
  refine mjGo.run 0 (pc' := 27) (F' := ([some (.ref 43), some (.int (nI e)), some (.int q), none, none, none, none, none, none, none, none], [.int (I 66 e)], mjH I X)) (fun _ => rfl) ?_
  rw [hh]
  refine mjGo.run 4 (pc' := 38) (F' := ([some (.ref 43), some (.int (nI e)), some (.int q), none, none, none, none, none, none, none, none], [.int (nI e), .ref 66], mjH I X)) (fun _ => rfl) ?_
  refine mjGo.op (pc' := 39) (F' := ([some (.ref 43), some (.int (nI e)), some (.int q), none, none, none, none, none, none, none, none], [.int (I 66 e)], mjH I X)) (o := mjiald 39) rfl (fun _ => mjald_n (n := 8) (by omega) (by decide) (rfl) (rfl)) ?_
  refine mjGo.run 0 (pc' := 39) (F' := ([some (.ref 43), some (.int (nI e)), some (.int q), none, none, none, none, none, none, none, none], [.int (I 66 e)], mjH I X)) (fun _ => rfl) ?_
  rw [hh]
  refine mjGo.run 5 (pc' := 48) (F' := ([some (.ref 43), some (.int (nI e)), some (.int q), none, none, none, none, none, none, none, none], [.int (nI e), .ref 67], mjH I X)) (fun _ => rfl) ?_
  refine mjGo.op (pc' := 49) (F' := ([some (.ref 43), some (.int (nI e)), some (.int q), none, none, none, none, none, none, none, none], [.int (I 67 e)], mjH I X)) (o := mjiald 49) rfl (fun _ => mjald_n (n := 8) (by omega) (by decide) (rfl) (rfl)) ?_
  refine mjGo.run 1 (pc' := 50) (F' := ([some (.ref 43), some (.int (nI e)), some (.int q), none, none, none, none, none, none, none, none], [.int 2, .int (I 67 e)], mjH I X)) (fun _ => rfl) ?_
  refine mjGo.run 1 (pc' := (bif decide ((I 67 e) = 2) then 56 else 53)) (F' := ([some (.ref 43), some (.int (nI e)), some (.int q), none, none, none, none, none, none, none, none], [], mjH I X)) (fun _ => rfl) ?_
  refine mjGo.brT (hq2) ?_
  show mjGo _ _ 56 _ _
  refine mjGo.run 3 (pc' := 61) (F' := ([some (.ref 43), some (.int (nI e)), some (.int q), none, none, none, none, none, none, none, none], [.int (nI e), .ref 68], mjH I X)) (fun _ => rfl) ?_
  refine mjGo.op (pc' := 62) (F' := ([some (.ref 43), some (.int (nI e)), some (.int q), none, none, none, none, none, none, none, none], [.int (I 68 e)], mjH I X)) (o := mjiald 62) rfl (fun _ => mjald_n (n := 8) (by omega) (by decide) (rfl) (rfl)) ?_
  refine mjGo.run 2 (pc' := 64) (F' := ([some (.ref 43), some (.int (nI e)), some (.int q), none, none, none, none, none, none, none, none], [.int ((I 68 e) - (I 68 e) / 3 * 3)], mjH I X)) (fun _ => rfl) ?_
  refine mjGo.run 1 (pc' := (bif decide (((I 68 e) - (I 68 e) / 3 * 3) ≠ 0) then 71 else 67)) (F' := ([some (.ref 43), some (.int (nI e)), some (.int q), none, none, none, none, none, none, none, none], [], mjH I X)) (fun _ => rfl) ?_
  refine mjGo.brT (by rw [hz, ne_eq, md3 hs]; exact hm) ?_
  show mjGo _ _ 71 _ _
  refine mjGo.run 8 (pc' := 83) (F' := ([some (.ref 43), some (.int (nI e)), some (.int q), some (.int 0), some (.int 0), none, none, none, none, none, none], [.int (nI e), .ref 68, .int 0], mjH I X)) (fun _ => rfl) ?_
  refine mjGo.op (pc' := 84) (F' := ([some (.ref 43), some (.int (nI e)), some (.int q), some (.int 0), some (.int 0), none, none, none, none, none, none], [.int (I 68 e), .int 0], mjH I X)) (o := mjiald 84) rfl (fun _ => mjald_n (n := 8) (by omega) (by decide) (rfl) (rfl)) ?_
  refine mjGo.run 3 (pc' := (bif decide (((I 68 e) / 3) ≤ 0) then 163 else 89)) (F' := ([some (.ref 43), some (.int (nI e)), some (.int q), some (.int 0), some (.int 0), none, none, none, none, none, none], [], mjH I X)) (fun _ => rfl) ?_
  refine mjGo.br (fun q1 => ?_) (fun q1 => ?_)
  · show mjGo _ _ 163 _ _
    exact mjGo.ret 4 (fun _ => rfl) rfl
  · show mjGo _ _ 89 _ _
    exact mjGo.ret 6 (fun _ => rfl) rfl
theorem c_mLnG (d : Nat) {e sz m : Nat} {q : Int32} {I : Nat → Nat → Int32} {X : MX} (hq : mIn q 0 2 = 1) (he : e < 8) (hh : I 66 e = 2) (hq2 : I 67 e = 2) (hz : I 68 e = nI sz) (hs : sz ≤ 100) (hm : sz = 3 * m) (ha : alB (thB (fun j => I 69 (100 * e + j))) m 0 = false) : mjEv (d + 4) nyX12_learn [.ref 43, .int (nI e), .int q] (mjH I X) (.inl (some (.int (-13)))) (mjH I X) := by
  refine mjEv.of ?_
  show mjGo (d + 4) nyX12_learn 0 ([some (.ref 43), some (.int (nI e)), some (.int q), none, none, none, none, none, none, none, none], [], mjH I X) _
  refine mjGo.run 3 (pc' := 4) (F' := ([some (.ref 43), some (.int (nI e)), some (.int q), none, none, none, none, none, none, none, none], [.int 7, .int 0, .int (nI e)], mjH I X)) (fun _ => rfl) ?_
  refine mjGo.call (n := 3) (j := 132) (nx := 7) (o := some (.int 1)) (h' := mjH I X) (fun _ => rfl) ((by have q9 := c_mIn (d + 3) (nI e) 0 7 (mjH I X); rw [mShelf_1 he] at q9; exact q9)) ?_
  show mjGo _ _ 7 ([some (.ref 43), some (.int (nI e)), some (.int q), none, none, none, none, none, none, none, none], [.int 1], mjH I X) _
  refine mjGo.run 4 (pc' := 13) (F' := ([some (.ref 43), some (.int (nI e)), some (.int q), none, none, none, none, none, none, none, none], [.int 2, .int 0, .int q], mjH I X)) (fun _ => rfl) ?_
  refine mjGo.call (n := 3) (j := 132) (nx := 16) (o := some (.int 1)) (h' := mjH I X) (fun _ => rfl) ((by have q9 := c_mIn (d + 3) q 0 2 (mjH I X); rw [hq] at q9; exact q9)) ?_
  show mjGo _ _ 16 ([some (.ref 43), some (.int (nI e)), some (.int q), none, none, none, none, none, none, none, none], [.int 1], mjH I X) _
  refine mjGo.run 4 (pc' := 26) (F' := ([some (.ref 43), some (.int (nI e)), some (.int q), none, none, none, none, none, none, none, none], [.int (nI e), .ref 66], mjH I X)) (fun _ => rfl) ?_
  refine mjGo.op (pc' := 27) (F' := ([some (.ref 43), some (.int (nI e)), some (.int q), none, none, none, none, none, none, none, none], [.int (I 66 e)], mjH I X)) (o := mjiald 27) rfl (fun _ => mjald_n (n := 8) (by omega) (by decide) (rfl) (rfl)) ?_
  refine mjGo.run 0 (pc' := 27) (F' := ([some (.ref 43), some (.int (nI e)), some (.int q), none, none, none, none, none, none, none, none], [.int (I 66 e)], mjH I X)) (fun _ => rfl) ?_
  rw [hh]
  refine mjGo.run 4 (pc' := 38) (F' := ([some (.ref 43), some (.int (nI e)), some (.int q), none, none, none, none, none, none, none, none], [.int (nI e), .ref 66], mjH I X)) (fun _ => rfl) ?_
  refine mjGo.op (pc' := 39) (F' := ([some (.ref 43), some (.int (nI e)), some (.int q), none, none, none, none, none, none, none, none], [.int (I 66 e)], mjH I X)) (o := mjiald 39) rfl (fun _ => mjald_n (n := 8) (by omega) (by decide) (rfl) (rfl)) ?_
  refine mjGo.run 0 (pc' := 39) (F' := ([some (.ref 43), some (.int (nI e)), some (.int q), none, none, none, none, none, none, none, none], [.int (I 66 e)], mjH I X)) (fun _ => rfl) ?_
  rw [hh]
  refine mjGo.run 5 (pc' := 48) (F' := ([some (.ref 43), some (.int (nI e)), some (.int q), none, none, none, none, none, none, none, none], [.int (nI e), .ref 67], mjH I X)) (fun _ => rfl) ?_
  refine mjGo.op (pc' := 49) (F' := ([some (.ref 43), some (.int (nI e)), some (.int q), none, none, none, none, none, none, none, none], [.int (I 67 e)], mjH I X)) (o := mjiald 49) rfl (fun _ => mjald_n (n := 8) (by omega) (by decide) (rfl) (rfl)) ?_
  refine mjGo.run 1 (pc' := 50) (F' := ([some (.ref 43), some (.int (nI e)), some (.int q), none, none, none, none, none, none, none, none], [.int 2, .int (I 67 e)], mjH I X)) (fun _ => rfl) ?_
  refine mjGo.run 1 (pc' := (bif decide ((I 67 e) = 2) then 56 else 53)) (F' := ([some (.ref 43), some (.int (nI e)), some (.int q), none, none, none, none, none, none, none, none], [], mjH I X)) (fun _ => rfl) ?_
  refine mjGo.brT (hq2) ?_
  show mjGo _ _ 56 _ _
  refine mjGo.run 3 (pc' := 61) (F' := ([some (.ref 43), some (.int (nI e)), some (.int q), none, none, none, none, none, none, none, none], [.int (nI e), .ref 68], mjH I X)) (fun _ => rfl) ?_
  refine mjGo.op (pc' := 62) (F' := ([some (.ref 43), some (.int (nI e)), some (.int q), none, none, none, none, none, none, none, none], [.int (I 68 e)], mjH I X)) (o := mjiald 62) rfl (fun _ => mjald_n (n := 8) (by omega) (by decide) (rfl) (rfl)) ?_
  refine mjGo.run 2 (pc' := 64) (F' := ([some (.ref 43), some (.int (nI e)), some (.int q), none, none, none, none, none, none, none, none], [.int ((I 68 e) - (I 68 e) / 3 * 3)], mjH I X)) (fun _ => rfl) ?_
  refine mjGo.run 1 (pc' := (bif decide (((I 68 e) - (I 68 e) / 3 * 3) ≠ 0) then 71 else 67)) (F' := ([some (.ref 43), some (.int (nI e)), some (.int q), none, none, none, none, none, none, none, none], [], mjH I X)) (fun _ => rfl) ?_
  refine mjGo.brF (by rw [hz, ne_eq, md3 hs]; omega) ?_
  show mjGo _ _ 67 _ _
  refine mjGo.run 5 (pc' := 76) (F' := ([some (.ref 43), some (.int (nI e)), some (.int q), some (.int 1), some (.int 0), none, none, none, none, none, none], [], mjH I X)) (fun _ => rfl) ?_
  exact m_lr_th (d := d + 1) he hz hs hm m 0 none (by omega) (fun w => absurd w (by rw [ha]; decide)) (fun _ => rfl)
theorem c_mLnH (d : Nat) {e sz m : Nat} {q : Int32} {I : Nat → Nat → Int32} {X : MX} (hq : mIn q 0 2 = 1) (he : e < 8) (hh : I 66 e = 2) (hq2 : I 67 e = 2) (hz : I 68 e = nI sz) (hs : sz ≤ 100) (hm : sz = 3 * m) (ha : alB (thB (fun j => I 69 (100 * e + j))) m 0 = true) : mjEv (d + 4) nyX12_learn [.ref 43, .int (nI e), .int q] (mjH I X) (.inl (some (.int (lrV (fun j => alB (cbB (fun j => I 69 (100 * e + j)) (vI j)) m 0) q 41 0 0 0 0)))) (mjH I X) := by
  refine mjEv.of ?_
  show mjGo (d + 4) nyX12_learn 0 ([some (.ref 43), some (.int (nI e)), some (.int q), none, none, none, none, none, none, none, none], [], mjH I X) _
  refine mjGo.run 3 (pc' := 4) (F' := ([some (.ref 43), some (.int (nI e)), some (.int q), none, none, none, none, none, none, none, none], [.int 7, .int 0, .int (nI e)], mjH I X)) (fun _ => rfl) ?_
  refine mjGo.call (n := 3) (j := 132) (nx := 7) (o := some (.int 1)) (h' := mjH I X) (fun _ => rfl) ((by have q9 := c_mIn (d + 3) (nI e) 0 7 (mjH I X); rw [mShelf_1 he] at q9; exact q9)) ?_
  show mjGo _ _ 7 ([some (.ref 43), some (.int (nI e)), some (.int q), none, none, none, none, none, none, none, none], [.int 1], mjH I X) _
  refine mjGo.run 4 (pc' := 13) (F' := ([some (.ref 43), some (.int (nI e)), some (.int q), none, none, none, none, none, none, none, none], [.int 2, .int 0, .int q], mjH I X)) (fun _ => rfl) ?_
  refine mjGo.call (n := 3) (j := 132) (nx := 16) (o := some (.int 1)) (h' := mjH I X) (fun _ => rfl) ((by have q9 := c_mIn (d + 3) q 0 2 (mjH I X); rw [hq] at q9; exact q9)) ?_
  show mjGo _ _ 16 ([some (.ref 43), some (.int (nI e)), some (.int q), none, none, none, none, none, none, none, none], [.int 1], mjH I X) _
  refine mjGo.run 4 (pc' := 26) (F' := ([some (.ref 43), some (.int (nI e)), some (.int q), none, none, none, none, none, none, none, none], [.int (nI e), .ref 66], mjH I X)) (fun _ => rfl) ?_
  refine mjGo.op (pc' := 27) (F' := ([some (.ref 43), some (.int (nI e)), some (.int q), none, none, none, none, none, none, none, none], [.int (I 66 e)], mjH I X)) (o := mjiald 27) rfl (fun _ => mjald_n (n := 8) (by omega) (by decide) (rfl) (rfl)) ?_
  refine mjGo.run 0 (pc' := 27) (F' := ([some (.ref 43), some (.int (nI e)), some (.int q), none, none, none, none, none, none, none, none], [.int (I 66 e)], mjH I X)) (fun _ => rfl) ?_
  rw [hh]
  refine mjGo.run 4 (pc' := 38) (F' := ([some (.ref 43), some (.int (nI e)), some (.int q), none, none, none, none, none, none, none, none], [.int (nI e), .ref 66], mjH I X)) (fun _ => rfl) ?_
  refine mjGo.op (pc' := 39) (F' := ([some (.ref 43), some (.int (nI e)), some (.int q), none, none, none, none, none, none, none, none], [.int (I 66 e)], mjH I X)) (o := mjiald 39) rfl (fun _ => mjald_n (n := 8) (by omega) (by decide) (rfl) (rfl)) ?_
  refine mjGo.run 0 (pc' := 39) (F' := ([some (.ref 43), some (.int (nI e)), some (.int q), none, none, none, none, none, none, none, none], [.int (I 66 e)], mjH I X)) (fun _ => rfl) ?_
  rw [hh]
  refine mjGo.run 5 (pc' := 48) (F' := ([some (.ref 43), some (.int (nI e)), some (.int q), none, none, none, none, none, none, none, none], [.int (nI e), .ref 67], mjH I X)) (fun _ => rfl) ?_
  refine mjGo.op (pc' := 49) (F' := ([some (.ref 43), some (.int (nI e)), some (.int q), none, none, none, none, none, none, none, none], [.int (I 67 e)], mjH I X)) (o := mjiald 49) rfl (fun _ => mjald_n (n := 8) (by omega) (by decide) (rfl) (rfl)) ?_
  refine mjGo.run 1 (pc' := 50) (F' := ([some (.ref 43), some (.int (nI e)), some (.int q), none, none, none, none, none, none, none, none], [.int 2, .int (I 67 e)], mjH I X)) (fun _ => rfl) ?_
  refine mjGo.run 1 (pc' := (bif decide ((I 67 e) = 2) then 56 else 53)) (F' := ([some (.ref 43), some (.int (nI e)), some (.int q), none, none, none, none, none, none, none, none], [], mjH I X)) (fun _ => rfl) ?_
  refine mjGo.brT (hq2) ?_
  show mjGo _ _ 56 _ _
  refine mjGo.run 3 (pc' := 61) (F' := ([some (.ref 43), some (.int (nI e)), some (.int q), none, none, none, none, none, none, none, none], [.int (nI e), .ref 68], mjH I X)) (fun _ => rfl) ?_
  refine mjGo.op (pc' := 62) (F' := ([some (.ref 43), some (.int (nI e)), some (.int q), none, none, none, none, none, none, none, none], [.int (I 68 e)], mjH I X)) (o := mjiald 62) rfl (fun _ => mjald_n (n := 8) (by omega) (by decide) (rfl) (rfl)) ?_
  refine mjGo.run 2 (pc' := 64) (F' := ([some (.ref 43), some (.int (nI e)), some (.int q), none, none, none, none, none, none, none, none], [.int ((I 68 e) - (I 68 e) / 3 * 3)], mjH I X)) (fun _ => rfl) ?_
  refine mjGo.run 1 (pc' := (bif decide (((I 68 e) - (I 68 e) / 3 * 3) ≠ 0) then 71 else 67)) (F' := ([some (.ref 43), some (.int (nI e)), some (.int q), none, none, none, none, none, none, none, none], [], mjH I X)) (fun _ => rfl) ?_
  refine mjGo.brF (by rw [hz, ne_eq, md3 hs]; omega) ?_
  show mjGo _ _ 67 _ _
  refine mjGo.run 5 (pc' := 76) (F' := ([some (.ref 43), some (.int (nI e)), some (.int q), some (.int 1), some (.int 0), none, none, none, none, none, none], [], mjH I X)) (fun _ => rfl) ?_
  refine m_lr_th (d := d + 1) he hz hs hm m 0 none (by omega) (fun w o4 o5 => ?_) (fun w => absurd ha (by rw [w]; decide))
  refine mjGo.run 8 (pc' := 183) (F' := ([some (.ref 43), some (.int (nI e)), some (.int q), some (.int 1), some (.int 0), some (.int 0), some (.int 0), some (.int (-20)), none, none, none], [], mjH I X)) (fun _ => rfl) ?_
  exact m_lr_loop (d := d + 1) (q := q) (X := X) he hz hs hm 41 0 0 0 0 0 0 none none none (by omega) (by omega) (fun w => absurd rfl w)
theorem k_learn (d : Nat) (p q : Int32) : CALL (d + 12) nyX11_learn nyX12_learn [.ref 0, .int p, .int q] [.ref 43, .int p, .int q] := CALL.pure2 fun I X hR => by
  by_cases hq : mIn q 0 2 = 0
  · exact ⟨_, _, c_xLnA (d + 8) hq, c_mLnA (d + 8) hq, rfl⟩
  have hq1 : mIn q 0 2 = 1 := (z_mIn q 0 2).resolve_left hq
  have h1 : ¬ q < 0 := fun w => hq (mIn_lo w)
  have h2 : q ≤ 2 := Int32.not_lt.mp fun w => hq (mIn_hi w)
  rcases shelf_cases p with ⟨e, he, rfl⟩ | ⟨w1, w2⟩
  · obtain ⟨sz, so, hh, ⟨z1, z2⟩, ⟨s1, s2⟩, ⟨g3, g4⟩, ⟨g5, g6, g7⟩, g8, g9⟩ := hR.sh he
    match hh, g7 with
    | 0, _ => exact ⟨_, _, c_xLnC (d + 8) h1 h2 he g3, c_mLnC (d + 8) hq1 he g4, rfl⟩
    | 1, _ => exact ⟨_, _, c_xLnD (d + 8) h1 h2 he g3, c_mLnD (d + 8) hq1 he g4, rfl⟩
    | 2, _ =>
      by_cases hso : so = 2
      · subst hso
        by_cases hm : sz % 3 = 0
        · obtain ⟨m, hm⟩ : ∃ m, sz = 3 * m := ⟨sz / 3, by omega⟩
          have hf : ∀ j, j < sz → I (28 + 2 * e) j = (fun j => I 69 (100 * e + j)) j := fun j hj => g8 j (by omega)
          cases ha : alB (thB (fun j => I 69 (100 * e + j))) m 0
          · exact ⟨_, _, c_xLnG (d + 8) h1 h2 he g3 s1 z1 g5 hm hf ha, c_mLnG (d + 8) hq1 he g4 s2 z2 g5 hm ha, rfl⟩
          · exact ⟨_, _, c_xLnH (d + 8) h1 h2 he g3 s1 z1 g5 hm hf ha, c_mLnH (d + 8) hq1 he g4 s2 z2 g5 hm ha, rfl⟩
        · exact ⟨_, _, c_xLnF (d + 8) h1 h2 he g3 s1 z1 g5 hm, c_mLnF (d + 8) hq1 he g4 s2 z2 g5 hm, rfl⟩
      · have w1 : ¬ I (27 + 2 * e) 1 = 2 := by rw [s1, show (2 : Int32) = nI 2 from rfl, nI_eq (by omega) (by omega)]; exact hso
        have w2 : ¬ I 67 e = 2 := by rw [s2, show (2 : Int32) = nI 2 from rfl, nI_eq (by omega) (by omega)]; exact hso
        exact ⟨_, _, c_xLnE (d + 8) h1 h2 he g3 w1, c_mLnE (d + 8) hq1 he g4 w2, rfl⟩
  · exact ⟨_, _, c_xLnB (d + 8) h1 h2 w1, c_mLnB (d + 8) w2, rfl⟩
