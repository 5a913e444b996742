/-! seeded -/
def sdR (s : Int32) : Int32 := ((s &&& 2147483647) / 65536) - ((s &&& 2147483647) / 65536) / 11 * 11
def sdC (z : Int32) : Int32 := mjmax (-20) (mjmin 20 z)
theorem sdC_bd (z : Int32) : -20 ≤ (sdC z).toInt ∧ (sdC z).toInt ≤ 20 := by
  unfold sdC
  have e1 : (-20 : Int32).toInt = -20 := by decide
  have e2 : (20 : Int32).toInt = 20 := by decide
  rw [i32_max, i32_min, e1, e2]
  omega
def sdD (dr s : Int32) : Int32 := sdC ((dr + sdR s) - 5)
def sdV (D : Int32 → dyT) (dr q : Int32) : Nat → Int32 → Int32 → Int32 → Int32 → Int32
  | 0, _, all, most, lates => if q ≠ 0 then (if q ≠ 1 then lates else most) else all
  | k + 1, seed, all, most, lates => sdV D dr q k ((seed * 1103515245) + 12345) (all + dyCost (D (sdD dr ((seed * 1103515245) + 12345)))) (mjmax most (dyCost (D (sdD dr ((seed * 1103515245) + 12345))))) (if (D (sdD dr ((seed * 1103515245) + 12345))).2.2.2.1 ≤ 0 then lates else lates + 1)
theorem x_sd_loop {d a kd np n9 wn lw i nn : Nat} {I0 : Nat → Nat → Int32} {X1 : MX} {dr fg z q : Int32} (ho : xOk I0 np n9) (hKa : lkK X1 a kd) (a1 : I0 a 1 = fg) (a2 : I0 a 2 = dr) (a3 : I0 a 3 = nI wn) (h18 : I0 1 8 = nI lw) (hwn : wn ≤ 719) (hlw : lw < 3) (hnn : nn ≤ 20) : ∀ (k j : Nat) (I : Nat → Nat → Int32) (Y : MX) (seed all most lates : Int32) (o11 o12 : Option Value), j + k = nn → eqO scz I0 I → (Y = X1 ∨ Y = mkX X1) →
    mjGo (d + 6) nyX11_seeded 51 ([some (.ref 0), some (.int (nI i)), some (.int (nI nn)), some (.int z), some (.int q), some (.ref a), some (.int seed), some (.int all), some (.int most), some (.int lates), some (.int (nI j)), o11, o12], [], mjH I Y) (fun x => ∃ J Y2, x = (.inl (some (.int (sdV (fun t => mD I0 np n9 (nI kd) fg t wn (nI lw)) dr q k seed all most lates))), mjH J Y2) ∧ eqO scz I0 J ∧ (Y2 = X1 ∨ Y2 = mkX X1)) := by
  intro k
  induction k with
  | zero =>
    intro j I Y seed all most lates o11 o12 hj heq hY
    refine mjGo.run 2 (pc' := 54) (F' := ([some (.ref 0), some (.int (nI i)), some (.int (nI nn)), some (.int z), some (.int q), some (.ref a), some (.int seed), some (.int all), some (.int most), some (.int lates), some (.int (nI j)), o11, o12], [.int (nI nn), .int (nI j)], mjH I Y)) (fun _ => rfl) ?_
    refine mjGo.run 1 (pc' := (bif decide ((nI nn) ≤ (nI j)) then 170 else 57)) (F' := ([some (.ref 0), some (.int (nI i)), some (.int (nI nn)), some (.int z), some (.int q), some (.ref a), some (.int seed), some (.int all), some (.int most), some (.int lates), some (.int (nI j)), o11, o12], [], mjH I Y)) (fun _ => rfl) ?_
    refine mjGo.brT (show (nI nn) ≤ (nI j) by rw [nI_leI (by omega) (by omega)]; omega) ?_
    show mjGo _ _ 170 _ _
    refine mjGo.run 2 (pc' := (bif decide (q ≠ 0) then 180 else 175)) (F' := ([some (.ref 0), some (.int (nI i)), some (.int (nI nn)), some (.int z), some (.int q), some (.ref a), some (.int seed), some (.int all), some (.int most), some (.int lates), some (.int (nI j)), o11, o12], [], mjH I Y)) (fun _ => rfl) ?_
    refine mjGo.br (fun q1 => ?_) (fun q1 => ?_)
    · show mjGo _ _ 180 _ _
      refine mjGo.run 3 (pc' := (bif decide (q ≠ 1) then 191 else 186)) (F' := ([some (.ref 0), some (.int (nI i)), some (.int (nI nn)), some (.int z), some (.int q), some (.ref a), some (.int seed), some (.int all), some (.int most), some (.int lates), some (.int (nI j)), o11, o12], [], mjH I Y)) (fun _ => rfl) ?_
      refine mjGo.br (fun q2 => ?_) (fun q2 => ?_)
      · show mjGo _ _ 191 _ _
        have e9 : sdV (fun t => mD I0 np n9 (nI kd) fg t wn (nI lw)) dr q 0 seed all most lates = lates := by rw [sdV, if_pos q1, if_pos q2]
        rw [e9]
        exact mjGo.ret 2 (fun _ => rfl) ⟨I, Y, rfl, heq, hY⟩
      · show mjGo _ _ 186 _ _
        have e9 : sdV (fun t => mD I0 np n9 (nI kd) fg t wn (nI lw)) dr q 0 seed all most lates = most := by rw [sdV, if_pos q1, if_neg q2]
        rw [e9]
        exact mjGo.ret 3 (fun _ => rfl) ⟨I, Y, rfl, heq, hY⟩
    · show mjGo _ _ 175 _ _
      have e9 : sdV (fun t => mD I0 np n9 (nI kd) fg t wn (nI lw)) dr q 0 seed all most lates = all := by rw [sdV, if_neg q1]
      rw [e9]
      exact mjGo.ret 3 (fun _ => rfl) ⟨I, Y, rfl, heq, hY⟩
  | succ k ih =>
    intro j I Y seed all most lates o11 o12 hj heq hY
    refine mjGo.run 2 (pc' := 54) (F' := ([some (.ref 0), some (.int (nI i)), some (.int (nI nn)), some (.int z), some (.int q), some (.ref a), some (.int seed), some (.int all), some (.int most), some (.int lates), some (.int (nI j)), o11, o12], [.int (nI nn), .int (nI j)], mjH I Y)) (fun _ => rfl) ?_
    refine mjGo.run 1 (pc' := (bif decide ((nI nn) ≤ (nI j)) then 170 else 57)) (F' := ([some (.ref 0), some (.int (nI i)), some (.int (nI nn)), some (.int z), some (.int q), some (.ref a), some (.int seed), some (.int all), some (.int most), some (.int lates), some (.int (nI j)), o11, o12], [], mjH I Y)) (fun _ => rfl) ?_
    refine mjGo.brF (show ¬ (nI nn) ≤ (nI j) by rw [nI_leI (by omega) (by omega)]; omega) ?_
    show mjGo _ _ 57 _ _
    refine mjGo.run 5 (pc' := 66) (F' := ([some (.ref 0), some (.int (nI i)), some (.int (nI nn)), some (.int z), some (.int q), some (.ref a), some (.int seed), some (.int all), some (.int most), some (.int lates), some (.int (nI j)), o11, o12], [.int ((seed * 1103515245) + 12345)], mjH I Y)) (fun _ => rfl) ?_
    refine mjGo.run 0 (pc' := 66) (F' := ([some (.ref 0), some (.int (nI i)), some (.int (nI nn)), some (.int z), some (.int q), some (.ref a), some (.int seed), some (.int all), some (.int most), some (.int lates), some (.int (nI j)), o11, o12], [.int ((seed * 1103515245) + 12345)], mjH I Y)) (fun _ => rfl) ?_
    obtain ⟨sd1, hsd1⟩ : ∃ t, t = ((seed * 1103515245) + 12345) := ⟨_, rfl⟩
    rw [show ((seed * 1103515245) + 12345) = sd1 from hsd1.symm]
    refine mjGo.run 8 (pc' := 79) (F' := ([some (.ref 0), some (.int (nI i)), some (.int (nI nn)), some (.int z), some (.int q), some (.ref a), some (.int sd1), some (.int all), some (.int most), some (.int lates), some (.int (nI j)), o11, o12], [.int (((sd1 &&& 2147483647) / 65536) - ((sd1 &&& 2147483647) / 65536) / 11 * 11)], mjH I Y)) (fun _ => rfl) ?_
    refine mjGo.run 0 (pc' := 79) (F' := ([some (.ref 0), some (.int (nI i)), some (.int (nI nn)), some (.int z), some (.int q), some (.ref a), some (.int sd1), some (.int all), some (.int most), some (.int lates), some (.int (nI j)), o11, o12], [.int (((sd1 &&& 2147483647) / 65536) - ((sd1 &&& 2147483647) / 65536) / 11 * 11)], mjH I Y)) (fun _ => rfl) ?_
    obtain ⟨r1, hr1⟩ : ∃ t, t = sdR sd1 := ⟨_, rfl⟩
    rw [show (((sd1 &&& 2147483647) / 65536) - ((sd1 &&& 2147483647) / 65536) / 11 * 11) = r1 from hr1.symm]
    refine mjGo.run 4 (pc' := 87) (F' := ([some (.ref 0), some (.int (nI i)), some (.int (nI nn)), some (.int z), some (.int q), some (.ref a), some (.int sd1), some (.int all), some (.int most), some (.int lates), some (.int (nI j)), some (.int r1), o12], [.ref a, .int 20, .int (-20)], mjH I Y)) (fun _ => rfl) ?_
    refine mjGo.op (pc' := 90) (F' := ([some (.ref 0), some (.int (nI i)), some (.int (nI nn)), some (.int z), some (.int q), some (.ref a), some (.int sd1), some (.int all), some (.int most), some (.int lates), some (.int (nI j)), some (.int r1), o12], [.int dr, .int 20, .int (-20)], mjH I Y)) (o := mjgetI [0, 1, 2, 4, 5, 7, 8, 9] 2 90) rfl (fun _ => lkK_get (lkK_or hY hKa) ((eqO_a heq scz_lt hKa.1 2).trans a2)) ?_
    refine mjGo.run 6 (pc' := 101) (F' := ([some (.ref 0), some (.int (nI i)), some (.int (nI nn)), some (.int z), some (.int q), some (.ref a), some (.int sd1), some (.int all), some (.int most), some (.int lates), some (.int (nI j)), some (.int r1), o12], [.int (mjmax (-20) (mjmin 20 ((dr + r1) - 5)))], mjH I Y)) (fun _ => rfl) ?_
    refine mjGo.run 0 (pc' := 101) (F' := ([some (.ref 0), some (.int (nI i)), some (.int (nI nn)), some (.int z), some (.int q), some (.ref a), some (.int sd1), some (.int all), some (.int most), some (.int lates), some (.int (nI j)), some (.int r1), o12], [.int (mjmax (-20) (mjmin 20 ((dr + r1) - 5)))], mjH I Y)) (fun _ => rfl) ?_
    obtain ⟨t1, ht1⟩ : ∃ t, t = sdC ((dr + r1) - 5) := ⟨_, rfl⟩
    rw [show (mjmax (-20) (mjmin 20 ((dr + r1) - 5))) = t1 from ht1.symm]
    refine mjGo.run 10 (pc' := 122) (F' := ([some (.ref 0), some (.int (nI i)), some (.int (nI nn)), some (.int z), some (.int q), some (.ref a), some (.int sd1), some (.int all), some (.int most), some (.int lates), some (.int (nI j)), some (.int r1), some (.int t1)], [.int (I 1 8), .int t1, .ref a, .ref 1, .ref 19], mjH I Y)) (fun _ => rfl) ?_
    obtain ⟨o9, h9, hev, rfl, J9, rfl, heJ, hDJ, h3J⟩ := c_xLive _ (X := Y) (fg := fg) (dr := t1) (lw := lw) (lkK_or hY hKa) ho heq a1 a3 hwn (by rw [ht1]; exact sdC_bd _) hlw
    refine mjGo.call (n := 5) (j := 44) (nx := 125) (o := none) (h' := mjH J9 (mkX Y)) (fun _ => rfl) ((by rw [show (I 1 8) = nI lw from (heq 1 8 rfl).trans h18]; exact hev)) ?_
    show mjGo _ _ 125 ([some (.ref 0), some (.int (nI i)), some (.int (nI nn)), some (.int z), some (.int q), some (.ref a), some (.int sd1), some (.int all), some (.int most), some (.int lates), some (.int (nI j)), some (.int r1), some (.int t1)], [], mjH J9 (mkX Y)) _
    refine mjGo.run 16 (pc' := (bif decide ((J9 19 10) ≤ 0) then 164 else 161)) (F' := ([some (.ref 0), some (.int (nI i)), some (.int (nI nn)), some (.int z), some (.int q), some (.ref a), some (.int sd1), some (.int (all + (J9 19 9))), some (.int (mjmax most (J9 19 9))), some (.int lates), some (.int (nI j)), some (.int r1), some (.int t1)], [], mjH J9 (mkX Y))) (fun _ => rfl) ?_
    refine mjGo.br (fun q1 => ?_) (fun q1 => ?_)
    · show mjGo _ _ 164 _ _
      refine mjGo.run 2 (pc' := 51) (F' := ([some (.ref 0), some (.int (nI i)), some (.int (nI nn)), some (.int z), some (.int q), some (.ref a), some (.int sd1), some (.int (all + (J9 19 9))), some (.int (mjmax most (J9 19 9))), some (.int lates), some (.int ((nI j) + 1)), some (.int r1), some (.int t1)], [], mjH J9 (mkX Y))) (fun _ => rfl) ?_
      rw [hDJ.2.2.1] at q1
      have k9 := ih (j + 1) J9 (mkX Y) sd1 (all + J9 19 9) (mjmax most (J9 19 9)) lates (some (.int r1)) (some (.int t1)) (by omega) heJ (Or.inr (mkX_or hY))
      have et : sdD dr sd1 = t1 := by unfold sdD; rw [ht1, hr1]
      have e9 : sdV (fun t => mD I0 np n9 (nI kd) fg t wn (nI lw)) dr q (k + 1) seed all most lates = sdV (fun t => mD I0 np n9 (nI kd) fg t wn (nI lw)) dr q k sd1 (all + J9 19 9) (mjmax most (J9 19 9)) lates := by rw [sdV, ← hsd1, et, if_pos q1, xDS_cost hDJ]
      rw [← nI_1] at k9
      rw [e9]
      exact k9
    · show mjGo _ _ 161 _ _
      refine mjGo.run 3 (pc' := 51) (F' := ([some (.ref 0), some (.int (nI i)), some (.int (nI nn)), some (.int z), some (.int q), some (.ref a), some (.int sd1), some (.int (all + (J9 19 9))), some (.int (mjmax most (J9 19 9))), some (.int (lates + 1)), some (.int ((nI j) + 1)), some (.int r1), some (.int t1)], [], mjH J9 (mkX Y))) (fun _ => rfl) ?_
      rw [hDJ.2.2.1] at q1
      have k9 := ih (j + 1) J9 (mkX Y) sd1 (all + J9 19 9) (mjmax most (J9 19 9)) (lates + 1) (some (.int r1)) (some (.int t1)) (by omega) heJ (Or.inr (mkX_or hY))
      have et : sdD dr sd1 = t1 := by unfold sdD; rw [ht1, hr1]
      have e9 : sdV (fun t => mD I0 np n9 (nI kd) fg t wn (nI lw)) dr q (k + 1) seed all most lates = sdV (fun t => mD I0 np n9 (nI kd) fg t wn (nI lw)) dr q k sd1 (all + J9 19 9) (mjmax most (J9 19 9)) (lates + 1) := by rw [sdV, ← hsd1, et, if_neg q1, xDS_cost hDJ]
      rw [← nI_1] at k9
      rw [e9]
      exact k9
