/-! always, edge -/
def alV (g : Nat → dyT) : Nat → Nat → Int32
  | 0, _ => -4
  | k + 1, j => if (g j).2.2.2.1 ≠ 0 then alV g k (j + 1) else nI j
def edV (g : Nat → dyT) (at0 : Int32) (w : Nat) : Nat → Nat → Int32
  | 0, _ => -4
  | k + 1, j => if at0 < (g j).2.2.2.2.2.2 w then edV g at0 w k (j + 1) else nI j
theorem mkX_or {X Y : MX} (h : Y = X ∨ Y = mkX X) : mkX Y = mkX X := by
  rcases h with rfl | rfl
  · rfl
  · exact mkX_mk
theorem lkK_or {X Y : MX} {a kd : Nat} (h : Y = X ∨ Y = mkX X) (hk : lkK X a kd) : lkK Y a kd := by
  rcases h with rfl | rfl
  · exact hk
  · exact hk
theorem x_al_loop {d a b kd np n9 wn lw i : Nat} {I0 : Nat → Nat → Int32} {X1 : MX} {dr : Int32} (ho : xOk I0 np n9) (hKb : lkK X1 b 1) (hKa : lkK X1 a kd) (b3 : I0 b 3 = nI wn) (a2 : I0 a 2 = dr) (h18 : I0 1 8 = nI lw) (hwn : wn ≤ 719) (hd : -20 ≤ dr.toInt ∧ dr.toInt ≤ 20) (hlw : lw < 3) : ∀ (k j : Nat) (I : Nat → Nat → Int32) (Y : MX), j + k = 10 → eqO scz I0 I → (Y = X1 ∨ Y = mkX X1) →
    mjGo (d + 6) nyX11_always 39 ([some (.ref 0), some (.int (nI i)), some (.ref a), some (.ref b), some (.int (nI j))], [], mjH I Y) (fun x => ∃ J Y2, x = (.inl (some (.int (alV (fun j => mS I0 np n9 1 (nI j) dr wn (nI lw)) k j))), mjH J Y2) ∧ eqO scz I0 J ∧ (Y2 = X1 ∨ Y2 = mkX X1)) := by
  intro k
  induction k with
  | zero =>
    intro j I Y hj heq hY
    refine mjGo.run 2 (pc' := 43) (F' := ([some (.ref 0), some (.int (nI i)), some (.ref a), some (.ref b), some (.int (nI j))], [.int 9, .int (nI j)], mjH I Y)) (fun _ => rfl) ?_
    refine mjGo.run 1 (pc' := (bif decide (9 < (nI j)) then 90 else 46)) (F' := ([some (.ref 0), some (.int (nI i)), some (.ref a), some (.ref b), some (.int (nI j))], [], mjH I Y)) (fun _ => rfl) ?_
    refine mjGo.brT (show 9 < (nI j) by rw [show (9 : Int32) = nI 9 from rfl, nI_ltI (by omega) (by omega)]; omega) ?_
    show mjGo _ _ 90 _ _
    exact mjGo.ret 2 (fun _ => rfl) ⟨I, Y, rfl, heq, hY⟩
  | succ k ih =>
    intro j I Y hj heq hY
    refine mjGo.run 2 (pc' := 43) (F' := ([some (.ref 0), some (.int (nI i)), some (.ref a), some (.ref b), some (.int (nI j))], [.int 9, .int (nI j)], mjH I Y)) (fun _ => rfl) ?_
    refine mjGo.run 1 (pc' := (bif decide (9 < (nI j)) then 90 else 46)) (F' := ([some (.ref 0), some (.int (nI i)), some (.ref a), some (.ref b), some (.int (nI j))], [], mjH I Y)) (fun _ => rfl) ?_
    refine mjGo.brF (show ¬ 9 < (nI j) by rw [show (9 : Int32) = nI 9 from rfl, nI_ltI (by omega) (by omega)]; omega) ?_
    show mjGo _ _ 46 _ _
    refine mjGo.run 7 (pc' := 58) (F' := ([some (.ref 0), some (.int (nI i)), some (.ref a), some (.ref b), some (.int (nI j))], [.ref a, .int (nI j), .ref b, .ref 1, .ref 19], mjH I Y)) (fun _ => rfl) ?_
    refine mjGo.op (pc' := 61) (F' := ([some (.ref 0), some (.int (nI i)), some (.ref a), some (.ref b), some (.int (nI j))], [.int dr, .int (nI j), .ref b, .ref 1, .ref 19], mjH I Y)) (o := mjgetI [0, 1, 2, 4, 5, 7, 8, 9] 2 61) rfl (fun _ => lkK_get (lkK_or hY hKa) ((eqO_a heq scz_lt hKa.1 2).trans a2)) ?_
    refine mjGo.run 3 (pc' := 68) (F' := ([some (.ref 0), some (.int (nI i)), some (.ref a), some (.ref b), some (.int (nI j))], [.int (I 1 8), .int dr, .int (nI j), .ref b, .ref 1, .ref 19], mjH I Y)) (fun _ => rfl) ?_
    obtain ⟨o9, h9, hev, rfl, J9, rfl, heJ, hDJ, h3J⟩ := c_xLv _ (X := Y) (fg := nI j) (dr := dr) (lw := lw) (lkK_or hY hKb) ho heq b3 hwn hd hlw
    refine mjGo.call (n := 6) (j := 43) (nx := 71) (o := none) (h' := mjH J9 (mkX Y)) (fun _ => rfl) ((by rw [show (I 1 8) = nI lw from (heq 1 8 rfl).trans h18]; exact hev)) ?_
    show mjGo _ _ 71 ([some (.ref 0), some (.int (nI i)), some (.ref a), some (.ref b), some (.int (nI j))], [], mjH J9 (mkX Y)) _
    refine mjGo.run 4 (pc' := (bif decide ((J9 19 10) ≠ 0) then 84 else 81)) (F' := ([some (.ref 0), some (.int (nI i)), some (.ref a), some (.ref b), some (.int (nI j))], [], mjH J9 (mkX Y))) (fun _ => rfl) ?_
    refine mjGo.br (fun q1 => ?_) (fun q1 => ?_)
    · show mjGo _ _ 84 _ _
      refine mjGo.run 2 (pc' := 39) (F' := ([some (.ref 0), some (.int (nI i)), some (.ref a), some (.ref b), some (.int ((nI j) + 1))], [], mjH J9 (mkX Y))) (fun _ => rfl) ?_
      rw [hDJ.2.2.1] at q1
      rw [alV, if_pos (show (mS I0 np n9 1 (nI j) dr wn (nI lw)).2.2.2.1 ≠ 0 from q1)]
      have k9 := ih (j + 1) J9 (mkX Y) (by omega) heJ (Or.inr (mkX_or hY))
      rw [← nI_1] at k9
      exact k9
    · show mjGo _ _ 81 _ _
      rw [hDJ.2.2.1] at q1
      rw [alV, if_neg (show ¬ (mS I0 np n9 1 (nI j) dr wn (nI lw)).2.2.2.1 ≠ 0 from q1)]
      exact mjGo.ret 2 (fun _ => rfl) ⟨J9, mkX Y, rfl, heJ, Or.inr (mkX_or hY)⟩
theorem x_ed_loop {d a b kd np n9 wn lw i : Nat} {I0 : Nat → Nat → Int32} {X1 : MX} {dr : Int32} {w9 : Nat} (ho : xOk I0 np n9) (hKb : lkK X1 b 2) (hKa : lkK X1 a kd) (b3 : I0 b 3 = nI wn) (a2 : I0 a 2 = dr) (h18 : I0 1 8 = nI lw) (hwn : wn ≤ 719) (hd : -20 ≤ dr.toInt ∧ dr.toInt ≤ 20) (hlw : lw < 3) (hw9 : w9 < n9) (h5 : n9 ≤ 5) : ∀ (k j : Nat) (I : Nat → Nat → Int32) (Y : MX), j + k = 10 → eqO scz I0 I → (Y = X1 ∨ Y = mkX X1) →
    mjGo (d + 6) nyX11_edge 51 ([some (.ref 0), some (.int (nI i)), some (.int (nI w9)), some (.ref a), some (.ref b), some (.int (nI j))], [], mjH I Y) (fun x => ∃ J Y2, x = (.inl (some (.int (edV (fun j => mS I0 np n9 2 (nI j) dr wn (nI lw)) (I0 2 w9) w9 k j))), mjH J Y2) ∧ eqO scz I0 J ∧ (Y2 = X1 ∨ Y2 = mkX X1)) := by
  intro k
  induction k with
  | zero =>
    intro j I Y hj heq hY
    refine mjGo.run 2 (pc' := 55) (F' := ([some (.ref 0), some (.int (nI i)), some (.int (nI w9)), some (.ref a), some (.ref b), some (.int (nI j))], [.int 9, .int (nI j)], mjH I Y)) (fun _ => rfl) ?_
    refine mjGo.run 1 (pc' := (bif decide (9 < (nI j)) then 128 else 58)) (F' := ([some (.ref 0), some (.int (nI i)), some (.int (nI w9)), some (.ref a), some (.ref b), some (.int (nI j))], [], mjH I Y)) (fun _ => rfl) ?_
    refine mjGo.brT (show 9 < (nI j) by rw [show (9 : Int32) = nI 9 from rfl, nI_ltI (by omega) (by omega)]; omega) ?_
    show mjGo _ _ 128 _ _
    exact mjGo.ret 2 (fun _ => rfl) ⟨I, Y, rfl, heq, hY⟩
  | succ k ih =>
    intro j I Y hj heq hY
    refine mjGo.run 2 (pc' := 55) (F' := ([some (.ref 0), some (.int (nI i)), some (.int (nI w9)), some (.ref a), some (.ref b), some (.int (nI j))], [.int 9, .int (nI j)], mjH I Y)) (fun _ => rfl) ?_
    refine mjGo.run 1 (pc' := (bif decide (9 < (nI j)) then 128 else 58)) (F' := ([some (.ref 0), some (.int (nI i)), some (.int (nI w9)), some (.ref a), some (.ref b), some (.int (nI j))], [], mjH I Y)) (fun _ => rfl) ?_
    refine mjGo.brF (show ¬ 9 < (nI j) by rw [show (9 : Int32) = nI 9 from rfl, nI_ltI (by omega) (by omega)]; omega) ?_
    show mjGo _ _ 58 _ _
    refine mjGo.run 7 (pc' := 71) (F' := ([some (.ref 0), some (.int (nI i)), some (.int (nI w9)), some (.ref a), some (.ref b), some (.int (nI j))], [.ref a, .int (nI j), .ref b, .ref 1, .ref 19], mjH I Y)) (fun _ => rfl) ?_
    refine mjGo.op (pc' := 74) (F' := ([some (.ref 0), some (.int (nI i)), some (.int (nI w9)), some (.ref a), some (.ref b), some (.int (nI j))], [.int dr, .int (nI j), .ref b, .ref 1, .ref 19], mjH I Y)) (o := mjgetI [0, 1, 2, 4, 5, 7, 8, 9] 2 74) rfl (fun _ => lkK_get (lkK_or hY hKa) ((eqO_a heq scz_lt hKa.1 2).trans a2)) ?_
    refine mjGo.run 3 (pc' := 81) (F' := ([some (.ref 0), some (.int (nI i)), some (.int (nI w9)), some (.ref a), some (.ref b), some (.int (nI j))], [.int (I 1 8), .int dr, .int (nI j), .ref b, .ref 1, .ref 19], mjH I Y)) (fun _ => rfl) ?_
    obtain ⟨o9, h9, hev, rfl, J9, rfl, heJ, hDJ, h3J⟩ := c_xLv _ (X := Y) (fg := nI j) (dr := dr) (lw := lw) (lkK_or hY hKb) ho heq b3 hwn hd hlw
    refine mjGo.call (n := 6) (j := 43) (nx := 84) (o := none) (h' := mjH J9 (mkX Y)) (fun _ => rfl) ((by rw [show (I 1 8) = nI lw from (heq 1 8 rfl).trans h18]; exact hev)) ?_
    show mjGo _ _ 84 ([some (.ref 0), some (.int (nI i)), some (.int (nI w9)), some (.ref a), some (.ref b), some (.int (nI j))], [], mjH J9 (mkX Y)) _
    refine mjGo.run 4 (pc' := 92) (F' := ([some (.ref 0), some (.int (nI i)), some (.int (nI w9)), some (.ref a), some (.ref b), some (.int (nI j))], [.int (nI w9), .ref 21], mjH J9 (mkX Y))) (fun _ => rfl) ?_
    refine mjGo.op (pc' := 93) (F' := ([some (.ref 0), some (.int (nI i)), some (.int (nI w9)), some (.ref a), some (.ref b), some (.int (nI j))], [.int (J9 21 w9)], mjH J9 (mkX Y))) (o := mjiald 93) rfl (fun _ => mjald_n (n := 5) (by omega) (by decide) (rfl) (rfl)) ?_
    refine mjGo.run 2 (pc' := (bif decide ((J9 21 w9) = (-4)) then 119 else 98)) (F' := ([some (.ref 0), some (.int (nI i)), some (.int (nI w9)), some (.ref a), some (.ref b), some (.int (nI j))], [], mjH J9 (mkX Y))) (fun _ => rfl) ?_
    refine mjGo.br (fun q1 => ?_) (fun q1 => ?_)
    · show mjGo _ _ 119 _ _
      have e1 : J9 21 w9 = (mS I0 np n9 2 (nI j) dr wn (nI lw)).2.2.2.2.2.2 w9 := hDJ.2.2.2.2 w9 hw9
      have e2 : J9 2 w9 = I0 2 w9 := heJ 2 w9 rfl
      rw [e1] at q1
      have e0 : ¬ I0 2 w9 < (mS I0 np n9 2 (nI j) dr wn (nI lw)).2.2.2.2.2.2 w9 := by
        rw [q1, i32_lt]
        have e4 : (-4 : Int32).toInt = -4 := by decide
        have hw0 := (ho.2.2.2.2.2.2.2.2.2.2 w9 hw9).1
        rw [← ho.2.2.1] at hw0
        omega
      rw [edV, if_neg e0]
      exact mjGo.ret 2 (fun _ => rfl) ⟨J9, mkX Y, rfl, heJ, Or.inr (mkX_or hY)⟩
    · show mjGo _ _ 98 _ _
      refine mjGo.run 4 (pc' := 106) (F' := ([some (.ref 0), some (.int (nI i)), some (.int (nI w9)), some (.ref a), some (.ref b), some (.int (nI j))], [.int (nI w9), .ref 21], mjH J9 (mkX Y))) (fun _ => rfl) ?_
      refine mjGo.op (pc' := 107) (F' := ([some (.ref 0), some (.int (nI i)), some (.int (nI w9)), some (.ref a), some (.ref b), some (.int (nI j))], [.int (J9 21 w9)], mjH J9 (mkX Y))) (o := mjiald 107) rfl (fun _ => mjald_n (n := 5) (by omega) (by decide) (rfl) (rfl)) ?_
      refine mjGo.run 4 (pc' := 115) (F' := ([some (.ref 0), some (.int (nI i)), some (.int (nI w9)), some (.ref a), some (.ref b), some (.int (nI j))], [.int (nI w9), .ref 2, .int (J9 21 w9)], mjH J9 (mkX Y))) (fun _ => rfl) ?_
      refine mjGo.op (pc' := 116) (F' := ([some (.ref 0), some (.int (nI i)), some (.int (nI w9)), some (.ref a), some (.ref b), some (.int (nI j))], [.int (J9 2 w9), .int (J9 21 w9)], mjH J9 (mkX Y))) (o := mjiald 116) rfl (fun _ => mjald_n (n := 5) (by omega) (by decide) (rfl) (rfl)) ?_
      refine mjGo.run 1 (pc' := (bif decide ((J9 2 w9) < (J9 21 w9)) then 122 else 119)) (F' := ([some (.ref 0), some (.int (nI i)), some (.int (nI w9)), some (.ref a), some (.ref b), some (.int (nI j))], [], mjH J9 (mkX Y))) (fun _ => rfl) ?_
      refine mjGo.br (fun q2 => ?_) (fun q2 => ?_)
      · show mjGo _ _ 122 _ _
        refine mjGo.run 2 (pc' := 51) (F' := ([some (.ref 0), some (.int (nI i)), some (.int (nI w9)), some (.ref a), some (.ref b), some (.int ((nI j) + 1))], [], mjH J9 (mkX Y))) (fun _ => rfl) ?_
        have e1 : J9 21 w9 = (mS I0 np n9 2 (nI j) dr wn (nI lw)).2.2.2.2.2.2 w9 := hDJ.2.2.2.2 w9 hw9
        have e2 : J9 2 w9 = I0 2 w9 := heJ 2 w9 rfl
        rw [e1, e2] at q2
        rw [edV, if_pos (show I0 2 w9 < (mS I0 np n9 2 (nI j) dr wn (nI lw)).2.2.2.2.2.2 w9 from q2)]
        have k9 := ih (j + 1) J9 (mkX Y) (by omega) heJ (Or.inr (mkX_or hY))
        rw [← nI_1] at k9
        exact k9
      · show mjGo _ _ 119 _ _
        have e1 : J9 21 w9 = (mS I0 np n9 2 (nI j) dr wn (nI lw)).2.2.2.2.2.2 w9 := hDJ.2.2.2.2 w9 hw9
        have e2 : J9 2 w9 = I0 2 w9 := heJ 2 w9 rfl
        rw [e1, e2] at q2
        have e0 := q2
        rw [edV, if_neg e0]
        exact mjGo.ret 2 (fun _ => rfl) ⟨J9, mkX Y, rfl, heJ, Or.inr (mkX_or hY)⟩
theorem x_always (d : Nat) {np n9 nl lw i a kd wn : Nat} {I : Nat → Nat → Int32} {X : MX} (ho : xOk I np n9) (hn : nl ≤ 6) (h16 : I 1 6 = nI nl) (hi : i < nl) (hl : lkR I X 1 44 i a kd wn) (hlw : lw < 3) (h18 : I 1 8 = nI lw) (hN : X.2.2.2.1 ≤ 800000) : mjEvP (d + 7) nyX11_always [.ref 0, .int (nI i)] (mjH I X) (fun o h2 => ∃ J Y, h2 = mjH J Y ∧ eqN (X.2.2.2.1 + 75) I J ∧ xle X Y ∧ grw X Y ∧ o = some (.int (alV (fun j => mS I np n9 1 (nI j) (I 50 i) wn (nI lw)) 10 0))) := by
  obtain ⟨hP, hlk, l0, l1, l2, l3, l4, hwn, l5, hdr⟩ := hl
  have e0 : eqN (X.2.2.2.1 + 75) I I := eqN.rf
  have x0 : xle X X := xle.rf
  refine mjEvP.of ?_
  show mjGo (d + 7) nyX11_always 0 ([some (.ref 0), some (.int (nI i)), none, none, none], [], mjH I X) _
  refine mjGo.run 2 (pc' := 2) (F' := ([some (.ref 0), some (.int (nI i)), none, none, none], [.int (nI i), .ref 0], mjH I X)) (fun _ => rfl) ?_
  refine mjGo.call (n := 2) (j := 91) (nx := 5) (o := some (.ref a)) (h' := mjH I X) (fun _ => rfl) (c_lkYes _ hn h16 hi hP) ?_
  show mjGo _ _ 5 ([some (.ref 0), some (.int (nI i)), none, none, none], [.ref a], mjH I X) _
  refine mjGo.run 3 (pc' := 12) (F' := ([some (.ref 0), some (.int (nI i)), some (.ref a), none, none], [], mjH I X)) (fun _ => rfl) ?_
  have e1 : eqN (X.2.2.2.1 + 75) I (nwI I X) := nwI_eq0
  have x1 : xle X (nwX X 5) := nwX_le
  refine mjGo.op (pc' := 15) (F' := ([some (.ref 0), some (.int (nI i)), some (.ref a), none, none], [.ref (X.2.2.2.1 + 75)], mjH (nwI I X) (nwX X 5))) (o := mjnew 5 4 15) rfl (fun _ => new_op (by omega)) ?_
  refine mjGo.run 2 (pc' := 17) (F' := ([some (.ref 0), some (.int (nI i)), some (.ref a), none, none], [.ref a, .ref (X.2.2.2.1 + 75), .ref (X.2.2.2.1 + 75)], mjH (nwI I X) (nwX X 5))) (fun _ => rfl) ?_
  refine mjGo.op (pc' := 20) (F' := ([some (.ref 0), some (.int (nI i)), some (.ref a), none, none], [.int (nI i), .ref (X.2.2.2.1 + 75), .ref (X.2.2.2.1 + 75)], mjH (nwI I X) (nwX X 5))) (o := mjgetI [0, 1, 2, 4, 5, 7, 8, 9] 0 20) rfl (fun _ => lkK_get (hlk.le x1) ((e1 a 0 (scr_hi hlk.1) hlk.2.1).trans l0)) ?_
  refine mjGo.run 1 (pc' := 21) (F' := ([some (.ref 0), some (.int (nI i)), some (.ref a), none, none], [.ref a, .int (nI i), .ref (X.2.2.2.1 + 75), .ref (X.2.2.2.1 + 75)], mjH (nwI I X) (nwX X 5))) (fun _ => rfl) ?_
  refine mjGo.op (pc' := 24) (F' := ([some (.ref 0), some (.int (nI i)), some (.ref a), none, none], [.int (I 49 i), .int (nI i), .ref (X.2.2.2.1 + 75), .ref (X.2.2.2.1 + 75)], mjH (nwI I X) (nwX X 5))) (o := mjgetI [0, 1, 2, 4, 5, 7, 8, 9] 1 24) rfl (fun _ => lkK_get (hlk.le x1) ((e1 a 1 (scr_hi hlk.1) hlk.2.1).trans l1)) ?_
  refine mjGo.run 1 (pc' := 25) (F' := ([some (.ref 0), some (.int (nI i)), some (.ref a), none, none], [.ref a, .int (I 49 i), .int (nI i), .ref (X.2.2.2.1 + 75), .ref (X.2.2.2.1 + 75)], mjH (nwI I X) (nwX X 5))) (fun _ => rfl) ?_
  refine mjGo.op (pc' := 28) (F' := ([some (.ref 0), some (.int (nI i)), some (.ref a), none, none], [.int (I 50 i), .int (I 49 i), .int (nI i), .ref (X.2.2.2.1 + 75), .ref (X.2.2.2.1 + 75)], mjH (nwI I X) (nwX X 5))) (o := mjgetI [0, 1, 2, 4, 5, 7, 8, 9] 2 28) rfl (fun _ => lkK_get (hlk.le x1) ((e1 a 2 (scr_hi hlk.1) hlk.2.1).trans l2)) ?_
  refine mjGo.run 1 (pc' := 29) (F' := ([some (.ref 0), some (.int (nI i)), some (.ref a), none, none], [.ref a, .int (I 50 i), .int (I 49 i), .int (nI i), .ref (X.2.2.2.1 + 75), .ref (X.2.2.2.1 + 75)], mjH (nwI I X) (nwX X 5))) (fun _ => rfl) ?_
  refine mjGo.op (pc' := 32) (F' := ([some (.ref 0), some (.int (nI i)), some (.ref a), none, none], [.int (I 51 i), .int (I 50 i), .int (I 49 i), .int (nI i), .ref (X.2.2.2.1 + 75), .ref (X.2.2.2.1 + 75)], mjH (nwI I X) (nwX X 5))) (o := mjgetI [0, 1, 2, 4, 5, 7, 8, 9] 3 32) rfl (fun _ => lkK_get (hlk.le x1) ((e1 a 3 (scr_hi hlk.1) hlk.2.1).trans (l3.trans l4.symm))) ?_
  have x2 : xle X (nwX X 5) := nwX_le
  obtain ⟨I1, hI1⟩ : ∃ I1, I1 = (lkI (nwI I X) (X.2.2.2.1 + 75) (nI i) (I 49 i) (I 50 i) (I 51 i)) := ⟨_, rfl⟩
  have e2 : eqN (X.2.2.2.1 + 75) I I1 := by rw [hI1]; exact nwI_eq
  have b0 : I1 (X.2.2.2.1 + 75) 0 = (nI i) := by rw [hI1]; exact lkI_0
  have b1 : I1 (X.2.2.2.1 + 75) 1 = (I 49 i) := by rw [hI1]; exact lkI_1
  have b2 : I1 (X.2.2.2.1 + 75) 2 = (I 50 i) := by rw [hI1]; exact lkI_2
  have b3 : I1 (X.2.2.2.1 + 75) 3 = (nI wn) := by rw [hI1]; exact lkI_3.trans l4
  refine mjGo.callR (j := 47) (nx := 35) (o := none) (h' := mjH I1 (nwX X 5)) rfl rfl rfl (Nat.lt_succ_self _) ((by rw [hI1]; exact c_in5 (kd := 1) _ (nwX_K (X := X) (kd := 1) (by omega)))) ?_
  show mjGo _ _ 35 ([some (.ref 0), some (.int (nI i)), some (.ref a), none, none], [.ref (X.2.2.2.1 + 75)], mjH I1 (nwX X 5)) _
  refine mjGo.run 3 (pc' := 39) (F' := ([some (.ref 0), some (.int (nI i)), some (.ref a), some (.ref (X.2.2.2.1 + 75)), some (.int 0)], [], mjH I1 (nwX X 5))) (fun _ => rfl) ?_
  obtain ⟨n, x, hx, J, Y, rfl, hJ, hY⟩ := x_al_loop (d := d + 1) (i := i) (ho.eq e2 (by omega)) (nwX_K (X := X) (kd := 1) (by omega)) (hlk.le x2) b3 ((e2 a 2 (scr_hi hlk.1) hlk.2.1).trans l2) ((e2 1 8 rfl (by omega)).trans h18) hwn hdr hlw 10 0 I1 (nwX X 5) (by omega) eqO.rf (Or.inl rfl)
  rw [(mD_N e2 (by omega)).2.2] at hx
  refine ⟨n, _, hx, _, rfl, J, Y, rfl, e2.trans (eqN.of hJ scz_scr) (Nat.le_refl _), x2.trans (xle_of hY), ?_, ?_⟩
  · rcases hY with rfl | rfl
    · exact grw_new
    · exact grw_new
  · rfl
theorem m_al_loop {d i kd wn np n9 nl lw : Nat} {I0 : Nat → Nat → Int32} {X : MX} (hb0 : MB I0 i kd wn np n9 nl lw) : ∀ (k j : Nat) (I : Nat → Nat → Int32), j + k = 10 → eqO scd I0 I →
    mjGo (d + 4) nyX12_always 12 ([some (.ref 43), some (.int (nI i)), some (.int (nI j))], [], mjH I X) (fun x => ∃ J, x = (.inl (some (.int (alV (fun j => (mS I0 np n9 1 (nI j) (I0 50 i) wn (nI lw))) k j))), mjH J X) ∧ eqO scd I0 J) := by
  intro k
  induction k with
  | zero =>
    intro j I hj heq
    refine mjGo.run 2 (pc' := 15) (F' := ([some (.ref 43), some (.int (nI i)), some (.int (nI j))], [.int 10, .int (nI j)], mjH I X)) (fun _ => rfl) ?_
    refine mjGo.run 1 (pc' := (bif decide (10 ≤ (nI j)) then 58 else 18)) (F' := ([some (.ref 43), some (.int (nI i)), some (.int (nI j))], [], mjH I X)) (fun _ => rfl) ?_
    refine mjGo.brT (show 10 ≤ (nI j) by rw [show (10 : Int32) = nI 10 from rfl, nI_leI (by omega) (by omega)]; omega) ?_
    show mjGo _ _ 58 _ _
    exact mjGo.ret 2 (fun _ => rfl) ⟨I, rfl, heq⟩
  | succ k ih =>
    intro j I hj heq
    obtain ⟨hb, e49, e50, eD⟩ := hb0.eq (n := 75) (eqN.of heq scd_scr) (by omega)
    have ⟨_, hn, h44, hi, m48, m51, hwn, m443⟩ := hb
    have ho := hb0.1
    refine mjGo.run 2 (pc' := 15) (F' := ([some (.ref 43), some (.int (nI i)), some (.int (nI j))], [.int 10, .int (nI j)], mjH I X)) (fun _ => rfl) ?_
    refine mjGo.run 1 (pc' := (bif decide (10 ≤ (nI j)) then 58 else 18)) (F' := ([some (.ref 43), some (.int (nI i)), some (.int (nI j))], [], mjH I X)) (fun _ => rfl) ?_
    refine mjGo.brF (show ¬ 10 ≤ (nI j) by rw [show (10 : Int32) = nI 10 from rfl, nI_leI (by omega) (by omega)]; omega) ?_
    show mjGo _ _ 18 _ _
    refine mjGo.run 6 (pc' := 26) (F' := ([some (.ref 43), some (.int (nI i)), some (.int (nI j))], [.int (nI i), .ref 50, .int (nI j), .int 1, .ref 43], mjH I X)) (fun _ => rfl) ?_
    refine mjGo.op (pc' := 27) (F' := ([some (.ref 43), some (.int (nI i)), some (.int (nI j))], [.int (I 50 i), .int (nI j), .int 1, .ref 43], mjH I X)) (o := mjiald 27) rfl (fun _ => mjald_n (n := 6) (by omega) (by decide) (rfl) (rfl)) ?_
    refine mjGo.run 3 (pc' := 32) (F' := ([some (.ref 43), some (.int (nI i)), some (.int (nI j))], [.int (nI i), .ref 51, .int (I 50 i), .int (nI j), .int 1, .ref 43], mjH I X)) (fun _ => rfl) ?_
    refine mjGo.op (pc' := 33) (F' := ([some (.ref 43), some (.int (nI i)), some (.int (nI j))], [.int (I 51 i), .int (I 50 i), .int (nI j), .int 1, .ref 43], mjH I X)) (o := mjiald 33) rfl (fun _ => mjald_n (n := 6) (by omega) (by decide) (rfl) (rfl)) ?_
    refine mjGo.run 4 (pc' := 39) (F' := ([some (.ref 43), some (.int (nI i)), some (.int (nI j))], [.int (I 44 3), .int (I 51 i), .int (I 50 i), .int (nI j), .int 1, .ref 43], mjH I X)) (fun _ => rfl) ?_
    obtain ⟨o9, h9, hev, J9, rfl, heJ, hdJ, rfl⟩ := c_mDay _ (k := 1) (f := nI j) (dr := I0 50 i) (wn := wn) (law := nI lw) (X := X) ho heq hwn
    refine mjGo.call (n := 6) (j := 151) (nx := 42) (o := some (.int (dyCost (mD I0 np n9 1 (nI j) (I0 50 i) wn (nI lw))))) (h' := mjH J9 X) (fun _ => rfl) ((by rw [m51, m443, e50]; exact hev)) ?_
    show mjGo _ _ 42 ([some (.ref 43), some (.int (nI i)), some (.int (nI j))], [.int (dyCost (mD I0 np n9 1 (nI j) (I0 50 i) wn (nI lw)))], mjH J9 X) _
    refine mjGo.run 4 (pc' := (bif decide ((J9 43 22) ≠ 0) then 52 else 50)) (F' := ([some (.ref 43), some (.int (nI i)), some (.int (nI j))], [], mjH J9 X)) (fun _ => rfl) ?_
    refine mjGo.br (fun q1 => ?_) (fun q1 => ?_)
    · show mjGo _ _ 52 _ _
      refine mjGo.run 2 (pc' := 12) (F' := ([some (.ref 43), some (.int (nI i)), some (.int ((nI j) + 1))], [], mjH J9 X)) (fun _ => rfl) ?_
      rw [hdJ.2.1] at q1
      rw [alV, if_pos (show (mS I0 np n9 1 (nI j) (I0 50 i) wn (nI lw)).2.2.2.1 ≠ 0 from q1)]
      have k9 := ih (j + 1) J9 (by omega) heJ
      rw [← nI_1] at k9
      exact k9
    · show mjGo _ _ 50 _ _
      rw [hdJ.2.1] at q1
      rw [alV, if_neg (show ¬ (mS I0 np n9 1 (nI j) (I0 50 i) wn (nI lw)).2.2.2.1 ≠ 0 from q1)]
      exact mjGo.ret 2 (fun _ => rfl) ⟨J9, rfl, heJ⟩
theorem m_ed_loop {d i kd wn np n9 nl lw w9 : Nat} {I0 : Nat → Nat → Int32} {X : MX} (hb0 : MB I0 i kd wn np n9 nl lw) (hw9 : w9 < n9) (h5 : n9 ≤ 5) : ∀ (k j : Nat) (I : Nat → Nat → Int32), j + k = 10 → eqO scd I0 I →
    mjGo (d + 4) nyX12_edge 20 ([some (.ref 43), some (.int (nI i)), some (.int (nI w9)), some (.int (nI j))], [], mjH I X) (fun x => ∃ J, x = (.inl (some (.int (edV (fun j => (mS I0 np n9 2 (nI j) (I0 50 i) wn (nI lw))) (I0 45 w9) w9 k j))), mjH J X) ∧ eqO scd I0 J) := by
  intro k
  induction k with
  | zero =>
    intro j I hj heq
    refine mjGo.run 2 (pc' := 23) (F' := ([some (.ref 43), some (.int (nI i)), some (.int (nI w9)), some (.int (nI j))], [.int 10, .int (nI j)], mjH I X)) (fun _ => rfl) ?_
    refine mjGo.run 1 (pc' := (bif decide (10 ≤ (nI j)) then 74 else 26)) (F' := ([some (.ref 43), some (.int (nI i)), some (.int (nI w9)), some (.int (nI j))], [], mjH I X)) (fun _ => rfl) ?_
    refine mjGo.brT (show 10 ≤ (nI j) by rw [show (10 : Int32) = nI 10 from rfl, nI_leI (by omega) (by omega)]; omega) ?_
    show mjGo _ _ 74 _ _
    exact mjGo.ret 2 (fun _ => rfl) ⟨I, rfl, heq⟩
  | succ k ih =>
    intro j I hj heq
    obtain ⟨hb, e49, e50, eD⟩ := hb0.eq (n := 75) (eqN.of heq scd_scr) (by omega)
    have ⟨_, hn, h44, hi, m48, m51, hwn, m443⟩ := hb
    have ho := hb0.1
    refine mjGo.run 2 (pc' := 23) (F' := ([some (.ref 43), some (.int (nI i)), some (.int (nI w9)), some (.int (nI j))], [.int 10, .int (nI j)], mjH I X)) (fun _ => rfl) ?_
    refine mjGo.run 1 (pc' := (bif decide (10 ≤ (nI j)) then 74 else 26)) (F' := ([some (.ref 43), some (.int (nI i)), some (.int (nI w9)), some (.int (nI j))], [], mjH I X)) (fun _ => rfl) ?_
    refine mjGo.brF (show ¬ 10 ≤ (nI j) by rw [show (10 : Int32) = nI 10 from rfl, nI_leI (by omega) (by omega)]; omega) ?_
    show mjGo _ _ 26 _ _
    refine mjGo.run 6 (pc' := 34) (F' := ([some (.ref 43), some (.int (nI i)), some (.int (nI w9)), some (.int (nI j))], [.int (nI i), .ref 50, .int (nI j), .int 2, .ref 43], mjH I X)) (fun _ => rfl) ?_
    refine mjGo.op (pc' := 35) (F' := ([some (.ref 43), some (.int (nI i)), some (.int (nI w9)), some (.int (nI j))], [.int (I 50 i), .int (nI j), .int 2, .ref 43], mjH I X)) (o := mjiald 35) rfl (fun _ => mjald_n (n := 6) (by omega) (by decide) (rfl) (rfl)) ?_
    refine mjGo.run 3 (pc' := 40) (F' := ([some (.ref 43), some (.int (nI i)), some (.int (nI w9)), some (.int (nI j))], [.int (nI i), .ref 51, .int (I 50 i), .int (nI j), .int 2, .ref 43], mjH I X)) (fun _ => rfl) ?_
    refine mjGo.op (pc' := 41) (F' := ([some (.ref 43), some (.int (nI i)), some (.int (nI w9)), some (.int (nI j))], [.int (I 51 i), .int (I 50 i), .int (nI j), .int 2, .ref 43], mjH I X)) (o := mjiald 41) rfl (fun _ => mjald_n (n := 6) (by omega) (by decide) (rfl) (rfl)) ?_
    refine mjGo.run 4 (pc' := 47) (F' := ([some (.ref 43), some (.int (nI i)), some (.int (nI w9)), some (.int (nI j))], [.int (I 44 3), .int (I 51 i), .int (I 50 i), .int (nI j), .int 2, .ref 43], mjH I X)) (fun _ => rfl) ?_
    obtain ⟨o9, h9, hev, J9, rfl, heJ, hdJ, rfl⟩ := c_mDay _ (k := 2) (f := nI j) (dr := I0 50 i) (wn := wn) (law := nI lw) (X := X) ho heq hwn
    refine mjGo.call (n := 6) (j := 151) (nx := 50) (o := some (.int (dyCost (mD I0 np n9 2 (nI j) (I0 50 i) wn (nI lw))))) (h' := mjH J9 X) (fun _ => rfl) ((by rw [m51, m443, e50]; exact hev)) ?_
    show mjGo _ _ 50 ([some (.ref 43), some (.int (nI i)), some (.int (nI w9)), some (.int (nI j))], [.int (dyCost (mD I0 np n9 2 (nI j) (I0 50 i) wn (nI lw)))], mjH J9 X) _
    refine mjGo.run 4 (pc' := 56) (F' := ([some (.ref 43), some (.int (nI i)), some (.int (nI w9)), some (.int (nI j))], [.int (nI w9), .ref 63], mjH J9 X)) (fun _ => rfl) ?_
    refine mjGo.op (pc' := 57) (F' := ([some (.ref 43), some (.int (nI i)), some (.int (nI w9)), some (.int (nI j))], [.int (J9 63 w9)], mjH J9 X)) (o := mjiald 57) rfl (fun _ => mjald_n (n := 5) (by omega) (by decide) (rfl) (rfl)) ?_
    refine mjGo.run 3 (pc' := 62) (F' := ([some (.ref 43), some (.int (nI i)), some (.int (nI w9)), some (.int (nI j))], [.int (nI w9), .ref 45, .int (J9 63 w9)], mjH J9 X)) (fun _ => rfl) ?_
    refine mjGo.op (pc' := 63) (F' := ([some (.ref 43), some (.int (nI i)), some (.int (nI w9)), some (.int (nI j))], [.int (J9 45 w9), .int (J9 63 w9)], mjH J9 X)) (o := mjiald 63) rfl (fun _ => mjald_n (n := 5) (by omega) (by decide) (rfl) (rfl)) ?_
    refine mjGo.run 1 (pc' := (bif decide ((J9 45 w9) < (J9 63 w9)) then 68 else 66)) (F' := ([some (.ref 43), some (.int (nI i)), some (.int (nI w9)), some (.int (nI j))], [], mjH J9 X)) (fun _ => rfl) ?_
    refine mjGo.br (fun q1 => ?_) (fun q1 => ?_)
    · show mjGo _ _ 68 _ _
      refine mjGo.run 2 (pc' := 20) (F' := ([some (.ref 43), some (.int (nI i)), some (.int (nI w9)), some (.int ((nI j) + 1))], [], mjH J9 X)) (fun _ => rfl) ?_
      have e1 : J9 63 w9 = (mS I0 np n9 2 (nI j) (I0 50 i) wn (nI lw)).2.2.2.2.2.2 w9 := hdJ.2.2.2.2 w9 hw9
      have e2 : J9 45 w9 = I0 45 w9 := heJ 45 w9 rfl
      rw [e1, e2] at q1
      rw [edV, if_pos (show I0 45 w9 < (mS I0 np n9 2 (nI j) (I0 50 i) wn (nI lw)).2.2.2.2.2.2 w9 from q1)]
      have k9 := ih (j + 1) J9 (by omega) heJ
      rw [← nI_1] at k9
      exact k9
    · show mjGo _ _ 66 _ _
      have e1 : J9 63 w9 = (mS I0 np n9 2 (nI j) (I0 50 i) wn (nI lw)).2.2.2.2.2.2 w9 := hdJ.2.2.2.2 w9 hw9
      have e2 : J9 45 w9 = I0 45 w9 := heJ 45 w9 rfl
      rw [e1, e2] at q1
      rw [edV, if_neg (show ¬ I0 45 w9 < (mS I0 np n9 2 (nI j) (I0 50 i) wn (nI lw)).2.2.2.2.2.2 w9 from q1)]
      exact mjGo.ret 2 (fun _ => rfl) ⟨J9, rfl, heJ⟩
theorem m_always (d : Nat) {i kd wn np n9 nl lw : Nat} {I : Nat → Nat → Int32} {X : MX} (hb : MB I i kd wn np n9 nl lw) : mjEvP (d + 7) nyX12_always [.ref 43, .int (nI i)] (mjH I X) (fun o h2 => ∃ J, h2 = mjH J X ∧ eqO scd I J ∧ o = some (.int (alV (fun j => mS I np n9 1 (nI j) (I 50 i) wn (nI lw)) 10 0))) := by
  have ⟨ho, hn, h44, hi, m48, m51, hwn, m443⟩ := hb
  refine mjEvP.of ?_
  show mjGo (d + 7) nyX12_always 0 ([some (.ref 43), some (.int (nI i)), none], [], mjH I X) _
  refine mjGo.run 2 (pc' := 2) (F' := ([some (.ref 43), some (.int (nI i)), none], [.int (nI i), .ref 43], mjH I X)) (fun _ => rfl) ?_
  refine mjGo.call (n := 2) (j := 138) (nx := 5) (o := some (.int 1)) (h' := mjH I X) (fun _ => rfl) ((by have q := c_mIsL (d + 5) (nI i) (I := I) (X := X); rw [mIsL, h44, mIn_yes hi (by omega)] at q; exact q)) ?_
  show mjGo _ _ 5 ([some (.ref 43), some (.int (nI i)), none], [.int 1], mjH I X) _
  refine mjGo.run 3 (pc' := 12) (F' := ([some (.ref 43), some (.int (nI i)), some (.int 0)], [], mjH I X)) (fun _ => rfl) ?_
  obtain ⟨n, x, hx, J, rfl, hJ⟩ := m_al_loop (d := d + 3) (X := X) hb 10 0 I (by omega) eqO.rf
  exact ⟨n, _, hx, _, rfl, J, rfl, hJ, rfl⟩
def xp_alwaysN (I : Nat → Nat → Int32) (k : Int32) : Int32 := (-1)
theorem c_xp_alwaysN (d : Nat) {I : Nat → Nat → Int32} {X : MX} (k : Int32) {nl : Nat} (hn : nl ≤ 6) (h16 : I 1 6 = nI nl) (hno : mIn k 0 (nI nl - 1) = 0) : mjEv (d + 7) nyX11_always [.ref 0, .int k] (mjH I X) (.inl (some (.int (xp_alwaysN I k)))) (mjH I X) := by
  refine mjEv.of ?_
  show mjGo (d + 7) nyX11_always 0 ([some (.ref 0), some (.int k), none, none, none], [], mjH I X) _
  refine mjGo.run 2 (pc' := 2) (F' := ([some (.ref 0), some (.int k), none, none, none], [.int k, .ref 0], mjH I X)) (fun _ => rfl) ?_
  refine mjGo.call (n := 2) (j := 91) (nx := 5) (o := some (.null)) (h' := mjH I X) (fun _ => rfl) (c_lkNo _ hn h16 hno) ?_
  show mjGo _ _ 5 ([some (.ref 0), some (.int k), none, none, none], [.null], mjH I X) _
  have e9 : xp_alwaysN I k = (-1) := by unfold xp_alwaysN; rfl
  rw [e9]
  exact mjGo.ret 5 (fun _ => rfl) rfl
def mp_alwaysN (I : Nat → Nat → Int32) (k : Int32) : Int32 := (-1)
theorem c_mp_alwaysN (d : Nat) {I : Nat → Nat → Int32} {X : MX} (k : Int32) {nl : Nat} (h44 : I 44 1 = nI nl) (hno : mIn k 0 (nI nl - 1) = 0) : mjEv (d + 7) nyX12_always [.ref 43, .int k] (mjH I X) (.inl (some (.int (mp_alwaysN I k)))) (mjH I X) := by
  refine mjEv.of ?_
  show mjGo (d + 7) nyX12_always 0 ([some (.ref 43), some (.int k), none], [], mjH I X) _
  refine mjGo.run 2 (pc' := 2) (F' := ([some (.ref 43), some (.int k), none], [.int k, .ref 43], mjH I X)) (fun _ => rfl) ?_
  refine mjGo.call (n := 2) (j := 138) (nx := 5) (o := some (.int 0)) (h' := mjH I X) (fun _ => rfl) ((by have q := c_mIsL (d + 5) k (I := I) (X := X); rw [mIsL, h44, hno] at q; exact q)) ?_
  show mjGo _ _ 5 ([some (.ref 43), some (.int k), none], [.int 0], mjH I X) _
  have e9 : mp_alwaysN I k = (-1) := by unfold mp_alwaysN; rfl
  rw [e9]
  exact mjGo.ret 3 (fun _ => rfl) rfl
theorem k_always (d : Nat) (k : Int32) : CALL (d + 12) nyX11_always nyX12_always [.ref 0, .int k] [.ref 43, .int k] := CALL.scrN fun I X hR hN => by
  obtain ⟨np, n9, nl, lw, ho, ⟨hn, h16, h44⟩, ⟨hlw, h18, h443⟩, hlk⟩ := hR.lk
  by_cases h : mIn k 0 (nI nl - 1) = 0
  · refine ⟨_, ⟨I, X, c_xp_alwaysN (d + 5) k hn h16 h, eqN.rf, xle.rf, grw.rf⟩, fun J Y hJ e hx => ?_⟩
    have q := c_mp_alwaysN (d + 5) (I := J) (X := Y) k ((e 44 1 rfl (by omega)).trans h44) h
    exact ⟨J, q, eqN.rf⟩
  · obtain ⟨i, hi, rfl⟩ := mIn_no h (by omega)
    obtain ⟨a, kd, wn, hl⟩ := hlk i hi
    have hb : MB I i kd wn np n9 nl lw := ⟨ho.2.2.2.2.2.2, hn, h44, hi, hl.2.2.2.2.2.2.2.2.1, hl.2.2.2.2.2.2.1, hl.2.2.2.2.2.2.2.1, h443⟩
    obtain ⟨o, h9, hev, J, Y, rfl, hJ, hx, hg, rfl⟩ := x_always (d + 5) ho hn h16 hi hl hlw h18 hN
    refine ⟨_, ⟨J, Y, hev, hJ, hx, hg⟩, fun J Y hRJ e hx => ?_⟩
    obtain ⟨hb2, e49, e50, eD⟩ := hb.eq e (by omega)
    have eB := (mD_N e (by omega)).2.1
    have eS := (mD_N e (by omega)).2.2
    have e45 : J 45 = I 45 := e.row (fun _ => rfl) (by omega)
    obtain ⟨o, h9, hev, L, rfl, hL, rfl⟩ := m_always (d + 5) (X := Y) hb2
    simp only [e49, e50, eD, eB, eS, e45] at hev
    exact ⟨L, hev, eqN.of hL scd_scr⟩
