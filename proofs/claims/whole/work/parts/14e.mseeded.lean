/-! seeded: the reference, its loop -/
theorem m_sd_loop {d i kd wn np n9 nl lw nn : Nat} {I0 : Nat → Nat → Int32} {X : MX} {z q : Int32} (hb0 : MB I0 i kd wn np n9 nl lw) (hnn : nn ≤ 20) : ∀ (k j : Nat) (I : Nat → Nat → Int32) (seed all most lates : Int32) (o10 o11 : Option Value), j + k = nn → eqO scd I0 I →
    mjGo (d + 4) nyX12_seeded 45 ([some (.ref 43), some (.int (nI i)), some (.int (nI nn)), some (.int z), some (.int q), some (.int seed), some (.int all), some (.int most), some (.int lates), some (.int (nI j)), o10, o11], [], mjH I X) (fun x => ∃ J, x = (.inl (some (.int (sdV (fun t => mD I0 np n9 (nI kd) (I0 49 i) t wn (nI lw)) (I0 50 i) q k seed all most lates))), mjH J X) ∧ eqO scd I0 J) := by
  intro k
  induction k with
  | zero =>
    intro j I seed all most lates o10 o11 hj heq
    refine mjGo.run 2 (pc' := 48) (F' := ([some (.ref 43), some (.int (nI i)), some (.int (nI nn)), some (.int z), some (.int q), some (.int seed), some (.int all), some (.int most), some (.int lates), some (.int (nI j)), o10, o11], [.int (nI nn), .int (nI j)], mjH I X)) (fun _ => rfl) ?_
    refine mjGo.run 1 (pc' := (bif decide ((nI nn) ≤ (nI j)) then 183 else 51)) (F' := ([some (.ref 43), some (.int (nI i)), some (.int (nI nn)), some (.int z), some (.int q), some (.int seed), some (.int all), some (.int most), some (.int lates), some (.int (nI j)), o10, o11], [], mjH I X)) (fun _ => rfl) ?_
    refine mjGo.brT (show (nI nn) ≤ (nI j) by rw [nI_leI (by omega) (by omega)]; omega) ?_
    show mjGo _ _ 183 _ _
    refine mjGo.run 2 (pc' := (bif decide (q ≠ 0) then 193 else 188)) (F' := ([some (.ref 43), some (.int (nI i)), some (.int (nI nn)), some (.int z), some (.int q), some (.int seed), some (.int all), some (.int most), some (.int lates), some (.int (nI j)), o10, o11], [], mjH I X)) (fun _ => rfl) ?_
    refine mjGo.br (fun q1 => ?_) (fun q1 => ?_)
    · show mjGo _ _ 193 _ _
      refine mjGo.run 3 (pc' := (bif decide (q ≠ 1) then 204 else 199)) (F' := ([some (.ref 43), some (.int (nI i)), some (.int (nI nn)), some (.int z), some (.int q), some (.int seed), some (.int all), some (.int most), some (.int lates), some (.int (nI j)), o10, o11], [], mjH I X)) (fun _ => rfl) ?_
      refine mjGo.br (fun q2 => ?_) (fun q2 => ?_)
      · show mjGo _ _ 204 _ _
        have e9 : sdV (fun t => mD I0 np n9 (nI kd) (I0 49 i) t wn (nI lw)) (I0 50 i) q 0 seed all most lates = lates := by rw [sdV, if_pos q1, if_pos q2]
        rw [e9]
        exact mjGo.ret 2 (fun _ => rfl) ⟨I, rfl, heq⟩
      · show mjGo _ _ 199 _ _
        have e9 : sdV (fun t => mD I0 np n9 (nI kd) (I0 49 i) t wn (nI lw)) (I0 50 i) q 0 seed all most lates = most := by rw [sdV, if_pos q1, if_neg q2]
        rw [e9]
        exact mjGo.ret 3 (fun _ => rfl) ⟨I, rfl, heq⟩
    · show mjGo _ _ 188 _ _
      have e9 : sdV (fun t => mD I0 np n9 (nI kd) (I0 49 i) t wn (nI lw)) (I0 50 i) q 0 seed all most lates = all := by rw [sdV, if_neg q1]
      rw [e9]
      exact mjGo.ret 3 (fun _ => rfl) ⟨I, rfl, heq⟩
  | succ k ih =>
    intro j I seed all most lates o10 o11 hj heq
    obtain ⟨hb, e49, e50, eD⟩ := hb0.eq (n := 75) (eqN.of heq scd_scr) (by omega)
    have ⟨_, hn, h44, hi, m48, m51, hwn, m443⟩ := hb
    have ho := hb0.1
    refine mjGo.run 2 (pc' := 48) (F' := ([some (.ref 43), some (.int (nI i)), some (.int (nI nn)), some (.int z), some (.int q), some (.int seed), some (.int all), some (.int most), some (.int lates), some (.int (nI j)), o10, o11], [.int (nI nn), .int (nI j)], mjH I X)) (fun _ => rfl) ?_
    refine mjGo.run 1 (pc' := (bif decide ((nI nn) ≤ (nI j)) then 183 else 51)) (F' := ([some (.ref 43), some (.int (nI i)), some (.int (nI nn)), some (.int z), some (.int q), some (.int seed), some (.int all), some (.int most), some (.int lates), some (.int (nI j)), o10, o11], [], mjH I X)) (fun _ => rfl) ?_
    refine mjGo.brF (show ¬ (nI nn) ≤ (nI j) by rw [nI_leI (by omega) (by omega)]; omega) ?_
    show mjGo _ _ 51 _ _
    refine mjGo.run 5 (pc' := 60) (F' := ([some (.ref 43), some (.int (nI i)), some (.int (nI nn)), some (.int z), some (.int q), some (.int seed), some (.int all), some (.int most), some (.int lates), some (.int (nI j)), o10, o11], [.int ((seed * 1103515245) + 12345)], mjH I X)) (fun _ => rfl) ?_
    refine mjGo.run 0 (pc' := 60) (F' := ([some (.ref 43), some (.int (nI i)), some (.int (nI nn)), some (.int z), some (.int q), some (.int seed), some (.int all), some (.int most), some (.int lates), some (.int (nI j)), o10, o11], [.int ((seed * 1103515245) + 12345)], mjH I X)) (fun _ => rfl) ?_
    obtain ⟨sd1, hsd1⟩ : ∃ t, t = ((seed * 1103515245) + 12345) := ⟨_, rfl⟩
    rw [show ((seed * 1103515245) + 12345) = sd1 from hsd1.symm]
    refine mjGo.run 4 (pc' := 67) (F' := ([some (.ref 43), some (.int (nI i)), some (.int (nI nn)), some (.int z), some (.int q), some (.int sd1), some (.int all), some (.int most), some (.int lates), some (.int (nI j)), o10, o11], [.int (nI i), .ref 50], mjH I X)) (fun _ => rfl) ?_
    refine mjGo.op (pc' := 68) (F' := ([some (.ref 43), some (.int (nI i)), some (.int (nI nn)), some (.int z), some (.int q), some (.int sd1), some (.int all), some (.int most), some (.int lates), some (.int (nI j)), o10, o11], [.int (I 50 i)], mjH I X)) (o := mjiald 68) rfl (fun _ => mjald_n (n := 6) (by omega) (by decide) (rfl) (rfl)) ?_
    refine mjGo.run 7 (pc' := 79) (F' := ([some (.ref 43), some (.int (nI i)), some (.int (nI nn)), some (.int z), some (.int q), some (.int sd1), some (.int all), some (.int most), some (.int lates), some (.int (nI j)), o10, o11], [.int (((sd1 &&& 2147483647) / 65536) - ((sd1 &&& 2147483647) / 65536) / 11 * 11), .int (I 50 i)], mjH I X)) (fun _ => rfl) ?_
    refine mjGo.run 0 (pc' := 79) (F' := ([some (.ref 43), some (.int (nI i)), some (.int (nI nn)), some (.int z), some (.int q), some (.int sd1), some (.int all), some (.int most), some (.int lates), some (.int (nI j)), o10, o11], [.int (((sd1 &&& 2147483647) / 65536) - ((sd1 &&& 2147483647) / 65536) / 11 * 11), .int (I 50 i)], mjH I X)) (fun _ => rfl) ?_
    obtain ⟨r1, hr1⟩ : ∃ t, t = sdR sd1 := ⟨_, rfl⟩
    rw [show (((sd1 &&& 2147483647) / 65536) - ((sd1 &&& 2147483647) / 65536) / 11 * 11) = r1 from hr1.symm]
    refine mjGo.run 3 (pc' := 82) (F' := ([some (.ref 43), some (.int (nI i)), some (.int (nI nn)), some (.int z), some (.int q), some (.int sd1), some (.int all), some (.int most), some (.int lates), some (.int (nI j)), o10, o11], [.int (((I 50 i) + r1) - 5)], mjH I X)) (fun _ => rfl) ?_
    refine mjGo.run 0 (pc' := 82) (F' := ([some (.ref 43), some (.int (nI i)), some (.int (nI nn)), some (.int z), some (.int q), some (.int sd1), some (.int all), some (.int most), some (.int lates), some (.int (nI j)), o10, o11], [.int (((I 50 i) + r1) - 5)], mjH I X)) (fun _ => rfl) ?_
    obtain ⟨z1, hz1⟩ : ∃ t, t = (I 50 i + r1) - 5 := ⟨_, rfl⟩
    rw [show (((I 50 i) + r1) - 5) = z1 from hz1.symm]
    refine mjGo.run 4 (pc' := (bif decide ((-20) ≤ z1) then 96 else 91)) (F' := ([some (.ref 43), some (.int (nI i)), some (.int (nI nn)), some (.int z), some (.int q), some (.int sd1), some (.int all), some (.int most), some (.int lates), some (.int (nI j)), some (.int z1), o11], [], mjH I X)) (fun _ => rfl) ?_
    refine mjGo.br (fun q1 => ?_) (fun q1 => ?_)
    · show mjGo _ _ 96 _ _
      refine mjGo.run 3 (pc' := (bif decide (z1 ≤ 20) then 108 else 103)) (F' := ([some (.ref 43), some (.int (nI i)), some (.int (nI nn)), some (.int z), some (.int q), some (.int sd1), some (.int all), some (.int most), some (.int lates), some (.int (nI j)), some (.int z1), o11], [], mjH I X)) (fun _ => rfl) ?_
      refine mjGo.br (fun q2 => ?_) (fun q2 => ?_)
      · show mjGo _ _ 108 _ _
        refine mjGo.run 1 (pc' := 110) (F' := ([some (.ref 43), some (.int (nI i)), some (.int (nI nn)), some (.int z), some (.int q), some (.int sd1), some (.int all), some (.int most), some (.int lates), some (.int (nI j)), some (.int z1), o11], [.int z1], mjH I X)) (fun _ => rfl) ?_
        refine mjGo.run 0 (pc' := 110) (F' := ([some (.ref 43), some (.int (nI i)), some (.int (nI nn)), some (.int z), some (.int q), some (.int sd1), some (.int all), some (.int most), some (.int lates), some (.int (nI j)), some (.int z1), o11], [.int z1], mjH I X)) (fun _ => rfl) ?_
        obtain ⟨t1, ht1⟩ : ∃ t, t = sdC z1 := ⟨_, rfl⟩
        rw [show z1 = t1 from ((sdC_if3 q1 q2).symm).trans ht1.symm]
        refine mjGo.run 5 (pc' := 118) (F' := ([some (.ref 43), some (.int (nI i)), some (.int (nI nn)), some (.int z), some (.int q), some (.int sd1), some (.int all), some (.int most), some (.int lates), some (.int (nI j)), some (.int t1), o11], [.int (nI i), .ref 48, .ref 43], mjH I X)) (fun _ => rfl) ?_
        refine mjGo.op (pc' := 119) (F' := ([some (.ref 43), some (.int (nI i)), some (.int (nI nn)), some (.int z), some (.int q), some (.int sd1), some (.int all), some (.int most), some (.int lates), some (.int (nI j)), some (.int t1), o11], [.int (I 48 i), .ref 43], mjH I X)) (o := mjiald 119) rfl (fun _ => mjald_n (n := 6) (by omega) (by decide) (rfl) (rfl)) ?_
        refine mjGo.run 3 (pc' := 124) (F' := ([some (.ref 43), some (.int (nI i)), some (.int (nI nn)), some (.int z), some (.int q), some (.int sd1), some (.int all), some (.int most), some (.int lates), some (.int (nI j)), some (.int t1), o11], [.int (nI i), .ref 49, .int (I 48 i), .ref 43], mjH I X)) (fun _ => rfl) ?_
        refine mjGo.op (pc' := 125) (F' := ([some (.ref 43), some (.int (nI i)), some (.int (nI nn)), some (.int z), some (.int q), some (.int sd1), some (.int all), some (.int most), some (.int lates), some (.int (nI j)), some (.int t1), o11], [.int (I 49 i), .int (I 48 i), .ref 43], mjH I X)) (o := mjiald 125) rfl (fun _ => mjald_n (n := 6) (by omega) (by decide) (rfl) (rfl)) ?_
        refine mjGo.run 4 (pc' := 132) (F' := ([some (.ref 43), some (.int (nI i)), some (.int (nI nn)), some (.int z), some (.int q), some (.int sd1), some (.int all), some (.int most), some (.int lates), some (.int (nI j)), some (.int t1), o11], [.int (nI i), .ref 51, .int t1, .int (I 49 i), .int (I 48 i), .ref 43], mjH I X)) (fun _ => rfl) ?_
        refine mjGo.op (pc' := 133) (F' := ([some (.ref 43), some (.int (nI i)), some (.int (nI nn)), some (.int z), some (.int q), some (.int sd1), some (.int all), some (.int most), some (.int lates), some (.int (nI j)), some (.int t1), o11], [.int (I 51 i), .int t1, .int (I 49 i), .int (I 48 i), .ref 43], mjH I X)) (o := mjiald 133) rfl (fun _ => mjald_n (n := 6) (by omega) (by decide) (rfl) (rfl)) ?_
        refine mjGo.run 4 (pc' := 139) (F' := ([some (.ref 43), some (.int (nI i)), some (.int (nI nn)), some (.int z), some (.int q), some (.int sd1), some (.int all), some (.int most), some (.int lates), some (.int (nI j)), some (.int t1), o11], [.int (I 44 3), .int (I 51 i), .int t1, .int (I 49 i), .int (I 48 i), .ref 43], mjH I X)) (fun _ => rfl) ?_
        obtain ⟨o9, h9, hev, J9, rfl, heJ, hdJ, rfl⟩ := c_mDay _ (k := nI kd) (f := I0 49 i) (dr := t1) (wn := wn) (law := nI lw) (X := X) ho heq hwn
        refine mjGo.call (n := 6) (j := 151) (nx := 142) (o := some (.int (dyCost (mD I0 np n9 (nI kd) (I0 49 i) t1 wn (nI lw))))) (h' := mjH J9 X) (fun _ => rfl) ((by rw [m48, m51, m443, e49]; exact hev)) ?_
        show mjGo _ _ 142 ([some (.ref 43), some (.int (nI i)), some (.int (nI nn)), some (.int z), some (.int q), some (.int sd1), some (.int all), some (.int most), some (.int lates), some (.int (nI j)), some (.int t1), o11], [.int (dyCost (mD I0 np n9 (nI kd) (I0 49 i) t1 wn (nI lw)))], mjH J9 X) _
        refine mjGo.run 13 (pc' := (bif decide ((J9 43 22) ≤ 0) then 173 else 169)) (F' := ([some (.ref 43), some (.int (nI i)), some (.int (nI nn)), some (.int z), some (.int q), some (.int sd1), some (.int (all + (dyCost (mD I0 np n9 (nI kd) (I0 49 i) t1 wn (nI lw))))), some (.int (mjmax most (dyCost (mD I0 np n9 (nI kd) (I0 49 i) t1 wn (nI lw))))), some (.int lates), some (.int (nI j)), some (.int t1), some (.int (dyCost (mD I0 np n9 (nI kd) (I0 49 i) t1 wn (nI lw))))], [.int lates], mjH J9 X)) (fun _ => rfl) ?_
        refine mjGo.br (fun q3 => ?_) (fun q3 => ?_)
        · show mjGo _ _ 173 _ _
          refine mjGo.run 5 (pc' := 45) (F' := ([some (.ref 43), some (.int (nI i)), some (.int (nI nn)), some (.int z), some (.int q), some (.int sd1), some (.int (all + (dyCost (mD I0 np n9 (nI kd) (I0 49 i) t1 wn (nI lw))))), some (.int (mjmax most (dyCost (mD I0 np n9 (nI kd) (I0 49 i) t1 wn (nI lw))))), some (.int (lates + 0)), some (.int ((nI j) + 1)), some (.int t1), some (.int (dyCost (mD I0 np n9 (nI kd) (I0 49 i) t1 wn (nI lw))))], [], mjH J9 X)) (fun _ => rfl) ?_
          rw [hdJ.2.1] at q3
          have k9 := ih (j + 1) J9 sd1 (all + (dyCost (mD I0 np n9 (nI kd) (I0 49 i) t1 wn (nI lw)))) (mjmax most (dyCost (mD I0 np n9 (nI kd) (I0 49 i) t1 wn (nI lw)))) lates (some (.int t1)) (some (.int (dyCost (mD I0 np n9 (nI kd) (I0 49 i) t1 wn (nI lw))))) (by omega) heJ
          have et : sdD (I0 50 i) sd1 = t1 := by unfold sdD; rw [ht1, hz1, hr1, e50]
          have e9 : sdV (fun t => mD I0 np n9 (nI kd) (I0 49 i) t wn (nI lw)) (I0 50 i) q (k + 1) seed all most lates = sdV (fun t => mD I0 np n9 (nI kd) (I0 49 i) t wn (nI lw)) (I0 50 i) q k sd1 (all + (dyCost (mD I0 np n9 (nI kd) (I0 49 i) t1 wn (nI lw)))) (mjmax most (dyCost (mD I0 np n9 (nI kd) (I0 49 i) t1 wn (nI lw)))) lates := by rw [sdV, ← hsd1, et, if_pos q3]
          rw [← nI_1] at k9
          rw [e9]
          rw [Int32.add_zero]
          exact k9
        · show mjGo _ _ 169 _ _
          refine mjGo.run 6 (pc' := 45) (F' := ([some (.ref 43), some (.int (nI i)), some (.int (nI nn)), some (.int z), some (.int q), some (.int sd1), some (.int (all + (dyCost (mD I0 np n9 (nI kd) (I0 49 i) t1 wn (nI lw))))), some (.int (mjmax most (dyCost (mD I0 np n9 (nI kd) (I0 49 i) t1 wn (nI lw))))), some (.int (lates + 1)), some (.int ((nI j) + 1)), some (.int t1), some (.int (dyCost (mD I0 np n9 (nI kd) (I0 49 i) t1 wn (nI lw))))], [], mjH J9 X)) (fun _ => rfl) ?_
          rw [hdJ.2.1] at q3
          have k9 := ih (j + 1) J9 sd1 (all + (dyCost (mD I0 np n9 (nI kd) (I0 49 i) t1 wn (nI lw)))) (mjmax most (dyCost (mD I0 np n9 (nI kd) (I0 49 i) t1 wn (nI lw)))) (lates + 1) (some (.int t1)) (some (.int (dyCost (mD I0 np n9 (nI kd) (I0 49 i) t1 wn (nI lw))))) (by omega) heJ
          have et : sdD (I0 50 i) sd1 = t1 := by unfold sdD; rw [ht1, hz1, hr1, e50]
          have e9 : sdV (fun t => mD I0 np n9 (nI kd) (I0 49 i) t wn (nI lw)) (I0 50 i) q (k + 1) seed all most lates = sdV (fun t => mD I0 np n9 (nI kd) (I0 49 i) t wn (nI lw)) (I0 50 i) q k sd1 (all + (dyCost (mD I0 np n9 (nI kd) (I0 49 i) t1 wn (nI lw)))) (mjmax most (dyCost (mD I0 np n9 (nI kd) (I0 49 i) t1 wn (nI lw)))) (lates + 1) := by rw [sdV, ← hsd1, et, if_neg q3]
          rw [← nI_1] at k9
          rw [e9]
          exact k9
      · show mjGo _ _ 103 _ _
        refine mjGo.run 2 (pc' := 110) (F' := ([some (.ref 43), some (.int (nI i)), some (.int (nI nn)), some (.int z), some (.int q), some (.int sd1), some (.int all), some (.int most), some (.int lates), some (.int (nI j)), some (.int z1), o11], [.int 20], mjH I X)) (fun _ => rfl) ?_
        refine mjGo.run 0 (pc' := 110) (F' := ([some (.ref 43), some (.int (nI i)), some (.int (nI nn)), some (.int z), some (.int q), some (.int sd1), some (.int all), some (.int most), some (.int lates), some (.int (nI j)), some (.int z1), o11], [.int 20], mjH I X)) (fun _ => rfl) ?_
        obtain ⟨t1, ht1⟩ : ∃ t, t = sdC z1 := ⟨_, rfl⟩
        rw [show 20 = t1 from ((sdC_if2 q1 q2).symm).trans ht1.symm]
        refine mjGo.run 5 (pc' := 118) (F' := ([some (.ref 43), some (.int (nI i)), some (.int (nI nn)), some (.int z), some (.int q), some (.int sd1), some (.int all), some (.int most), some (.int lates), some (.int (nI j)), some (.int t1), o11], [.int (nI i), .ref 48, .ref 43], mjH I X)) (fun _ => rfl) ?_
        refine mjGo.op (pc' := 119) (F' := ([some (.ref 43), some (.int (nI i)), some (.int (nI nn)), some (.int z), some (.int q), some (.int sd1), some (.int all), some (.int most), some (.int lates), some (.int (nI j)), some (.int t1), o11], [.int (I 48 i), .ref 43], mjH I X)) (o := mjiald 119) rfl (fun _ => mjald_n (n := 6) (by omega) (by decide) (rfl) (rfl)) ?_
        refine mjGo.run 3 (pc' := 124) (F' := ([some (.ref 43), some (.int (nI i)), some (.int (nI nn)), some (.int z), some (.int q), some (.int sd1), some (.int all), some (.int most), some (.int lates), some (.int (nI j)), some (.int t1), o11], [.int (nI i), .ref 49, .int (I 48 i), .ref 43], mjH I X)) (fun _ => rfl) ?_
        refine mjGo.op (pc' := 125) (F' := ([some (.ref 43), some (.int (nI i)), some (.int (nI nn)), some (.int z), some (.int q), some (.int sd1), some (.int all), some (.int most), some (.int lates), some (.int (nI j)), some (.int t1), o11], [.int (I 49 i), .int (I 48 i), .ref 43], mjH I X)) (o := mjiald 125) rfl (fun _ => mjald_n (n := 6) (by omega) (by decide) (rfl) (rfl)) ?_
        refine mjGo.run 4 (pc' := 132) (F' := ([some (.ref 43), some (.int (nI i)), some (.int (nI nn)), some (.int z), some (.int q), some (.int sd1), some (.int all), some (.int most), some (.int lates), some (.int (nI j)), some (.int t1), o11], [.int (nI i), .ref 51, .int t1, .int (I 49 i), .int (I 48 i), .ref 43], mjH I X)) (fun _ => rfl) ?_
        refine mjGo.op (pc' := 133) (F' := ([some (.ref 43), some (.int (nI i)), some (.int (nI nn)), some (.int z), some (.int q), some (.int sd1), some (.int all), some (.int most), some (.int lates), some (.int (nI j)), some (.int t1), o11], [.int (I 51 i), .int t1, .int (I 49 i), .int (I 48 i), .ref 43], mjH I X)) (o := mjiald 133) rfl (fun _ => mjald_n (n := 6) (by omega) (by decide) (rfl) (rfl)) ?_
        refine mjGo.run 4 (pc' := 139) (F' := ([some (.ref 43), some (.int (nI i)), some (.int (nI nn)), some (.int z), some (.int q), some (.int sd1), some (.int all), some (.int most), some (.int lates), some (.int (nI j)), some (.int t1), o11], [.int (I 44 3), .int (I 51 i), .int t1, .int (I 49 i), .int (I 48 i), .ref 43], mjH I X)) (fun _ => rfl) ?_
        obtain ⟨o9, h9, hev, J9, rfl, heJ, hdJ, rfl⟩ := c_mDay _ (k := nI kd) (f := I0 49 i) (dr := t1) (wn := wn) (law := nI lw) (X := X) ho heq hwn
        refine mjGo.call (n := 6) (j := 151) (nx := 142) (o := some (.int (dyCost (mD I0 np n9 (nI kd) (I0 49 i) t1 wn (nI lw))))) (h' := mjH J9 X) (fun _ => rfl) ((by rw [m48, m51, m443, e49]; exact hev)) ?_
        show mjGo _ _ 142 ([some (.ref 43), some (.int (nI i)), some (.int (nI nn)), some (.int z), some (.int q), some (.int sd1), some (.int all), some (.int most), some (.int lates), some (.int (nI j)), some (.int t1), o11], [.int (dyCost (mD I0 np n9 (nI kd) (I0 49 i) t1 wn (nI lw)))], mjH J9 X) _
        refine mjGo.run 13 (pc' := (bif decide ((J9 43 22) ≤ 0) then 173 else 169)) (F' := ([some (.ref 43), some (.int (nI i)), some (.int (nI nn)), some (.int z), some (.int q), some (.int sd1), some (.int (all + (dyCost (mD I0 np n9 (nI kd) (I0 49 i) t1 wn (nI lw))))), some (.int (mjmax most (dyCost (mD I0 np n9 (nI kd) (I0 49 i) t1 wn (nI lw))))), some (.int lates), some (.int (nI j)), some (.int t1), some (.int (dyCost (mD I0 np n9 (nI kd) (I0 49 i) t1 wn (nI lw))))], [.int lates], mjH J9 X)) (fun _ => rfl) ?_
        refine mjGo.br (fun q4 => ?_) (fun q4 => ?_)
        · show mjGo _ _ 173 _ _
          refine mjGo.run 5 (pc' := 45) (F' := ([some (.ref 43), some (.int (nI i)), some (.int (nI nn)), some (.int z), some (.int q), some (.int sd1), some (.int (all + (dyCost (mD I0 np n9 (nI kd) (I0 49 i) t1 wn (nI lw))))), some (.int (mjmax most (dyCost (mD I0 np n9 (nI kd) (I0 49 i) t1 wn (nI lw))))), some (.int (lates + 0)), some (.int ((nI j) + 1)), some (.int t1), some (.int (dyCost (mD I0 np n9 (nI kd) (I0 49 i) t1 wn (nI lw))))], [], mjH J9 X)) (fun _ => rfl) ?_
          rw [hdJ.2.1] at q4
          have k9 := ih (j + 1) J9 sd1 (all + (dyCost (mD I0 np n9 (nI kd) (I0 49 i) t1 wn (nI lw)))) (mjmax most (dyCost (mD I0 np n9 (nI kd) (I0 49 i) t1 wn (nI lw)))) lates (some (.int t1)) (some (.int (dyCost (mD I0 np n9 (nI kd) (I0 49 i) t1 wn (nI lw))))) (by omega) heJ
          have et : sdD (I0 50 i) sd1 = t1 := by unfold sdD; rw [ht1, hz1, hr1, e50]
          have e9 : sdV (fun t => mD I0 np n9 (nI kd) (I0 49 i) t wn (nI lw)) (I0 50 i) q (k + 1) seed all most lates = sdV (fun t => mD I0 np n9 (nI kd) (I0 49 i) t wn (nI lw)) (I0 50 i) q k sd1 (all + (dyCost (mD I0 np n9 (nI kd) (I0 49 i) t1 wn (nI lw)))) (mjmax most (dyCost (mD I0 np n9 (nI kd) (I0 49 i) t1 wn (nI lw)))) lates := by rw [sdV, ← hsd1, et, if_pos q4]
          rw [← nI_1] at k9
          rw [e9]
          rw [Int32.add_zero]
          exact k9
        · show mjGo _ _ 169 _ _
          refine mjGo.run 6 (pc' := 45) (F' := ([some (.ref 43), some (.int (nI i)), some (.int (nI nn)), some (.int z), some (.int q), some (.int sd1), some (.int (all + (dyCost (mD I0 np n9 (nI kd) (I0 49 i) t1 wn (nI lw))))), some (.int (mjmax most (dyCost (mD I0 np n9 (nI kd) (I0 49 i) t1 wn (nI lw))))), some (.int (lates + 1)), some (.int ((nI j) + 1)), some (.int t1), some (.int (dyCost (mD I0 np n9 (nI kd) (I0 49 i) t1 wn (nI lw))))], [], mjH J9 X)) (fun _ => rfl) ?_
          rw [hdJ.2.1] at q4
          have k9 := ih (j + 1) J9 sd1 (all + (dyCost (mD I0 np n9 (nI kd) (I0 49 i) t1 wn (nI lw)))) (mjmax most (dyCost (mD I0 np n9 (nI kd) (I0 49 i) t1 wn (nI lw)))) (lates + 1) (some (.int t1)) (some (.int (dyCost (mD I0 np n9 (nI kd) (I0 49 i) t1 wn (nI lw))))) (by omega) heJ
          have et : sdD (I0 50 i) sd1 = t1 := by unfold sdD; rw [ht1, hz1, hr1, e50]
          have e9 : sdV (fun t => mD I0 np n9 (nI kd) (I0 49 i) t wn (nI lw)) (I0 50 i) q (k + 1) seed all most lates = sdV (fun t => mD I0 np n9 (nI kd) (I0 49 i) t wn (nI lw)) (I0 50 i) q k sd1 (all + (dyCost (mD I0 np n9 (nI kd) (I0 49 i) t1 wn (nI lw)))) (mjmax most (dyCost (mD I0 np n9 (nI kd) (I0 49 i) t1 wn (nI lw)))) (lates + 1) := by rw [sdV, ← hsd1, et, if_neg q4]
          rw [← nI_1] at k9
          rw [e9]
          exact k9
    · show mjGo _ _ 91 _ _
      refine mjGo.run 2 (pc' := 110) (F' := ([some (.ref 43), some (.int (nI i)), some (.int (nI nn)), some (.int z), some (.int q), some (.int sd1), some (.int all), some (.int most), some (.int lates), some (.int (nI j)), some (.int z1), o11], [.int (-20)], mjH I X)) (fun _ => rfl) ?_
      refine mjGo.run 0 (pc' := 110) (F' := ([some (.ref 43), some (.int (nI i)), some (.int (nI nn)), some (.int z), some (.int q), some (.int sd1), some (.int all), some (.int most), some (.int lates), some (.int (nI j)), some (.int z1), o11], [.int (-20)], mjH I X)) (fun _ => rfl) ?_
      obtain ⟨t1, ht1⟩ : ∃ t, t = sdC z1 := ⟨_, rfl⟩
      rw [show (-20) = t1 from ((sdC_if1 q1).symm).trans ht1.symm]
      refine mjGo.run 5 (pc' := 118) (F' := ([some (.ref 43), some (.int (nI i)), some (.int (nI nn)), some (.int z), some (.int q), some (.int sd1), some (.int all), some (.int most), some (.int lates), some (.int (nI j)), some (.int t1), o11], [.int (nI i), .ref 48, .ref 43], mjH I X)) (fun _ => rfl) ?_
      refine mjGo.op (pc' := 119) (F' := ([some (.ref 43), some (.int (nI i)), some (.int (nI nn)), some (.int z), some (.int q), some (.int sd1), some (.int all), some (.int most), some (.int lates), some (.int (nI j)), some (.int t1), o11], [.int (I 48 i), .ref 43], mjH I X)) (o := mjiald 119) rfl (fun _ => mjald_n (n := 6) (by omega) (by decide) (rfl) (rfl)) ?_
      refine mjGo.run 3 (pc' := 124) (F' := ([some (.ref 43), some (.int (nI i)), some (.int (nI nn)), some (.int z), some (.int q), some (.int sd1), some (.int all), some (.int most), some (.int lates), some (.int (nI j)), some (.int t1), o11], [.int (nI i), .ref 49, .int (I 48 i), .ref 43], mjH I X)) (fun _ => rfl) ?_
      refine mjGo.op (pc' := 125) (F' := ([some (.ref 43), some (.int (nI i)), some (.int (nI nn)), some (.int z), some (.int q), some (.int sd1), some (.int all), some (.int most), some (.int lates), some (.int (nI j)), some (.int t1), o11], [.int (I 49 i), .int (I 48 i), .ref 43], mjH I X)) (o := mjiald 125) rfl (fun _ => mjald_n (n := 6) (by omega) (by decide) (rfl) (rfl)) ?_
      refine mjGo.run 4 (pc' := 132) (F' := ([some (.ref 43), some (.int (nI i)), some (.int (nI nn)), some (.int z), some (.int q), some (.int sd1), some (.int all), some (.int most), some (.int lates), some (.int (nI j)), some (.int t1), o11], [.int (nI i), .ref 51, .int t1, .int (I 49 i), .int (I 48 i), .ref 43], mjH I X)) (fun _ => rfl) ?_
      refine mjGo.op (pc' := 133) (F' := ([some (.ref 43), some (.int (nI i)), some (.int (nI nn)), some (.int z), some (.int q), some (.int sd1), some (.int all), some (.int most), some (.int lates), some (.int (nI j)), some (.int t1), o11], [.int (I 51 i), .int t1, .int (I 49 i), .int (I 48 i), .ref 43], mjH I X)) (o := mjiald 133) rfl (fun _ => mjald_n (n := 6) (by omega) (by decide) (rfl) (rfl)) ?_
      refine mjGo.run 4 (pc' := 139) (F' := ([some (.ref 43), some (.int (nI i)), some (.int (nI nn)), some (.int z), some (.int q), some (.int sd1), some (.int all), some (.int most), some (.int lates), some (.int (nI j)), some (.int t1), o11], [.int (I 44 3), .int (I 51 i), .int t1, .int (I 49 i), .int (I 48 i), .ref 43], mjH I X)) (fun _ => rfl) ?_
      obtain ⟨o9, h9, hev, J9, rfl, heJ, hdJ, rfl⟩ := c_mDay _ (k := nI kd) (f := I0 49 i) (dr := t1) (wn := wn) (law := nI lw) (X := X) ho heq hwn
      refine mjGo.call (n := 6) (j := 151) (nx := 142) (o := some (.int (dyCost (mD I0 np n9 (nI kd) (I0 49 i) t1 wn (nI lw))))) (h' := mjH J9 X) (fun _ => rfl) ((by rw [m48, m51, m443, e49]; exact hev)) ?_
      show mjGo _ _ 142 ([some (.ref 43), some (.int (nI i)), some (.int (nI nn)), some (.int z), some (.int q), some (.int sd1), some (.int all), some (.int most), some (.int lates), some (.int (nI j)), some (.int t1), o11], [.int (dyCost (mD I0 np n9 (nI kd) (I0 49 i) t1 wn (nI lw)))], mjH J9 X) _
      refine mjGo.run 13 (pc' := (bif decide ((J9 43 22) ≤ 0) then 173 else 169)) (F' := ([some (.ref 43), some (.int (nI i)), some (.int (nI nn)), some (.int z), some (.int q), some (.int sd1), some (.int (all + (dyCost (mD I0 np n9 (nI kd) (I0 49 i) t1 wn (nI lw))))), some (.int (mjmax most (dyCost (mD I0 np n9 (nI kd) (I0 49 i) t1 wn (nI lw))))), some (.int lates), some (.int (nI j)), some (.int t1), some (.int (dyCost (mD I0 np n9 (nI kd) (I0 49 i) t1 wn (nI lw))))], [.int lates], mjH J9 X)) (fun _ => rfl) ?_
      refine mjGo.br (fun q5 => ?_) (fun q5 => ?_)
      · show mjGo _ _ 173 _ _
        refine mjGo.run 5 (pc' := 45) (F' := ([some (.ref 43), some (.int (nI i)), some (.int (nI nn)), some (.int z), some (.int q), some (.int sd1), some (.int (all + (dyCost (mD I0 np n9 (nI kd) (I0 49 i) t1 wn (nI lw))))), some (.int (mjmax most (dyCost (mD I0 np n9 (nI kd) (I0 49 i) t1 wn (nI lw))))), some (.int (lates + 0)), some (.int ((nI j) + 1)), some (.int t1), some (.int (dyCost (mD I0 np n9 (nI kd) (I0 49 i) t1 wn (nI lw))))], [], mjH J9 X)) (fun _ => rfl) ?_
        rw [hdJ.2.1] at q5
        have k9 := ih (j + 1) J9 sd1 (all + (dyCost (mD I0 np n9 (nI kd) (I0 49 i) t1 wn (nI lw)))) (mjmax most (dyCost (mD I0 np n9 (nI kd) (I0 49 i) t1 wn (nI lw)))) lates (some (.int t1)) (some (.int (dyCost (mD I0 np n9 (nI kd) (I0 49 i) t1 wn (nI lw))))) (by omega) heJ
        have et : sdD (I0 50 i) sd1 = t1 := by unfold sdD; rw [ht1, hz1, hr1, e50]
        have e9 : sdV (fun t => mD I0 np n9 (nI kd) (I0 49 i) t wn (nI lw)) (I0 50 i) q (k + 1) seed all most lates = sdV (fun t => mD I0 np n9 (nI kd) (I0 49 i) t wn (nI lw)) (I0 50 i) q k sd1 (all + (dyCost (mD I0 np n9 (nI kd) (I0 49 i) t1 wn (nI lw)))) (mjmax most (dyCost (mD I0 np n9 (nI kd) (I0 49 i) t1 wn (nI lw)))) lates := by rw [sdV, ← hsd1, et, if_pos q5]
        rw [← nI_1] at k9
        rw [e9]
        rw [Int32.add_zero]
        exact k9
      · show mjGo _ _ 169 _ _
        refine mjGo.run 6 (pc' := 45) (F' := ([some (.ref 43), some (.int (nI i)), some (.int (nI nn)), some (.int z), some (.int q), some (.int sd1), some (.int (all + (dyCost (mD I0 np n9 (nI kd) (I0 49 i) t1 wn (nI lw))))), some (.int (mjmax most (dyCost (mD I0 np n9 (nI kd) (I0 49 i) t1 wn (nI lw))))), some (.int (lates + 1)), some (.int ((nI j) + 1)), some (.int t1), some (.int (dyCost (mD I0 np n9 (nI kd) (I0 49 i) t1 wn (nI lw))))], [], mjH J9 X)) (fun _ => rfl) ?_
        rw [hdJ.2.1] at q5
        have k9 := ih (j + 1) J9 sd1 (all + (dyCost (mD I0 np n9 (nI kd) (I0 49 i) t1 wn (nI lw)))) (mjmax most (dyCost (mD I0 np n9 (nI kd) (I0 49 i) t1 wn (nI lw)))) (lates + 1) (some (.int t1)) (some (.int (dyCost (mD I0 np n9 (nI kd) (I0 49 i) t1 wn (nI lw))))) (by omega) heJ
        have et : sdD (I0 50 i) sd1 = t1 := by unfold sdD; rw [ht1, hz1, hr1, e50]
        have e9 : sdV (fun t => mD I0 np n9 (nI kd) (I0 49 i) t wn (nI lw)) (I0 50 i) q (k + 1) seed all most lates = sdV (fun t => mD I0 np n9 (nI kd) (I0 49 i) t wn (nI lw)) (I0 50 i) q k sd1 (all + (dyCost (mD I0 np n9 (nI kd) (I0 49 i) t1 wn (nI lw)))) (mjmax most (dyCost (mD I0 np n9 (nI kd) (I0 49 i) t1 wn (nI lw)))) (lates + 1) := by rw [sdV, ← hsd1, et, if_neg q5]
        rw [← nI_1] at k9
        rw [e9]
        exact k9
