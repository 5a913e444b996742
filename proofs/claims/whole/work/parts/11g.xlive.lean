/-! the class: a day of any kind -/
def xOk (I : Nat → Nat → Int32) (np n9 : Nat) : Prop := I 1 7 = nI np ∧ I 1 5 = nI n9 ∧ I 2 = I 45 ∧ I 3 = I 46 ∧ I 4 = I 47 ∧ I 6 = I 52 ∧ mOk I np n9
def xLvP (I0 : Nat → Nat → Int32) (X : MX) (n9 : Nat) (fg : Int32) (s : dyT) (o : Option Value) (h2 : MH) : Prop := o = none ∧ ∃ J, h2 = mjH J (mkX X) ∧ eqO scz I0 J ∧ xDS J s n9 ∧ J 19 3 = fg
theorem xDS_cost {I : Nat → Nat → Int32} {s : dyT} {k : Nat} (h : xDS I s k) : I 19 9 = dyCost s := by
  obtain ⟨⟨_, _, h, _⟩, _⟩ := h
  rw [h]
  exact Int32.add_comm _ _
theorem c_xLv (d : Nat) {a kd np n9 wn lw : Nat} {I0 I : Nat → Nat → Int32} {X : MX} {fg dr : Int32} (hlk : lkK X a kd) (ho : xOk I0 np n9) (heq : eqO scz I0 I) (hwk0 : I0 a 3 = nI wn) (hwn : wn ≤ 719) (hd : -20 ≤ dr.toInt ∧ dr.toInt ≤ 20) (hlw : lw < 3) :
    mjEvP (d + 4) nyX3_liveBy [.ref 19, .ref 1, .ref a, .int fg, .int dr, .int (nI lw)] (mjH I X) (xLvP I0 X n9 fg (mS I0 np n9 (asOf kd) fg dr wn (nI lw))) := by
  obtain ⟨hnp, hn, r2, r3, r4, r6, hmp, hop, hmn, hok⟩ := ho
  have ha := hlk.1
  have h19 : a ≠ 19 := by omega
  have hwk : I a 3 = nI wn := (eqO_a heq scz_lt ha 3).trans hwk0
  have i2 : I 2 = I0 45 := (heq.row (fun j => rfl)).trans r2
  have i3 : I 3 = I0 46 := (heq.row (fun j => rfl)).trans r3
  have i4 : I 4 = I0 47 := (heq.row (fun j => rfl)).trans r4
  have i6 : I 6 = I0 52 := (heq.row (fun j => rfl)).trans r6
  have inp : I 1 7 = nI np := (heq 1 7 rfl).trans hnp
  have inn : I 1 5 = nI n9 := (heq 1 5 rfl).trans hn
  refine mjEvP.of ?_
  show mjGo (d + 4) nyX3_liveBy 0 ([some (.ref 19), some (.ref 1), some (.ref a), some (.int fg), some (.int dr), some (.int (nI lw)), none], [], mjH I X) _
  refine mjGo.run 2 (pc' := 2) (F' := ([some (.ref 19), some (.ref 1), some (.ref a), some (.int fg), some (.int dr), some (.int (nI lw)), none], [.ref 1, .ref 19], mjH I X)) (fun _ => rfl) ?_
  refine mjGo.op (pc' := 5) (F' := ([some (.ref 19), some (.ref 1), some (.ref a), some (.int fg), some (.int dr), some (.int (nI lw)), none], [], mjH I (mkX X))) (o := mjputP [3] 2 5) rfl (fun _ => putP_town) ?_
  refine mjGo.run 11 (pc' := 24) (F' := ([some (.ref 19), some (.ref 1), some (.ref a), some (.int fg), some (.int dr), some (.int (nI lw)), none], [.ref a, .ref 19], mjH (mjU (mjU (mjU I 19 3 fg) 19 4 dr) 19 5 (nI lw)) (mkX X))) (fun _ => rfl) ?_
  refine mjGo.op (pc' := 27) (F' := ([some (.ref 19), some (.ref 1), some (.ref a), some (.int fg), some (.int dr), some (.int (nI lw)), none], [.int (nI wn), .ref 19], mjH (mjU (mjU (mjU I 19 3 fg) 19 4 dr) 19 5 (nI lw)) (mkX X))) (o := mjgetI [0, 1, 2, 4, 5, 7, 8, 9] 3 27) rfl (fun _ => lkK_get (X := mkX X) hlk (by rw [mjU_ob h19, mjU_ob h19, mjU_ob h19]; exact hwk)) ?_
  refine mjGo.run 3 (pc' := 32) (F' := ([some (.ref 19), some (.ref 1), some (.ref a), some (.int fg), some (.int dr), some (.int (nI lw)), none], [.ref a, .ref 19], mjH (mjU (mjU (mjU (mjU I 19 3 fg) 19 4 dr) 19 5 (nI lw)) 19 6 (nI wn)) (mkX X))) (fun _ => rfl) ?_
  refine mjGo.op (pc' := 35) (F' := ([some (.ref 19), some (.ref 1), some (.ref a), some (.int fg), some (.int dr), some (.int (nI lw)), none], [.int (nI wn), .ref 19], mjH (mjU (mjU (mjU (mjU I 19 3 fg) 19 4 dr) 19 5 (nI lw)) 19 6 (nI wn)) (mkX X))) (o := mjgetI [0, 1, 2, 4, 5, 7, 8, 9] 3 35) rfl (fun _ => lkK_get (X := mkX X) hlk (by rw [mjU_ob h19, mjU_ob h19, mjU_ob h19, mjU_ob h19]; exact hwk)) ?_
  refine mjGo.run 18 (pc' := 66) (F' := ([some (.ref 19), some (.ref 1), some (.ref a), some (.int fg), some (.int dr), some (.int (nI lw)), some (.int 0)], [], mjH (mjU (mjU (mjU (mjU (mjU (mjU (mjU (mjU (mjU (mjU I 19 3 fg) 19 4 dr) 19 5 (nI lw)) 19 6 (nI wn)) 19 7 (nI wn)) 19 8 0) 19 9 0) 19 10 0) 19 11 0) 19 12 0) (mkX X))) (fun _ => rfl) ?_
  generalize hC : (mjU (mjU (mjU (mjU (mjU (mjU (mjU (mjU (mjU (mjU I 19 3 fg) 19 4 dr) 19 5 (nI lw)) 19 6 (nI wn)) 19 7 (nI wn)) 19 8 0) 19 9 0) 19 10 0) 19 11 0) 19 12 0) = C
  have hCe : eqO scz I C := by subst hC; exact ((((((((((eqO.rf.put rfl).put rfl).put rfl).put rfl).put rfl).put rfl).put rfl).put rfl).put rfl).put rfl)
  have c2 : C 2 = I 2 := hCe.row (fun j => rfl)
  have c3 : C 3 = I 3 := hCe.row (fun j => rfl)
  have c4 : C 4 = I 4 := hCe.row (fun j => rfl)
  have c6 : C 6 = I 6 := hCe.row (fun j => rfl)
  have cwk : C a 3 = nI wn := (eqO_a hCe scz_lt ha 3).trans hwk
  have he : xEn C (mkX X) a kd np fg dr lw := ⟨hlk, mkX_at, (hCe 1 7 rfl).trans inp, by rw [c6, i6]; exact hop, by subst hC; rfl, by subst hC; rfl, hd, by subst hC; rfl, hlw⟩
  obtain ⟨n, x, hx, J, rfl, hJ, hDJ⟩ := x_dy (d := d) (b3 := fg) (b4 := dr) (b5 := nI lw) he cwk hwn ((hCe 1 5 rfl).trans inn) (by rw [c2, c3, i2, i3]; exact hok) (n9 + 1) 0 C (by omega) (by omega) eqO.rf (by subst hC; exact ⟨⟨rfl, rfl, rfl, rfl, fun i hi => absurd hi (Nat.not_lt_zero _)⟩, rfl, rfl, rfl, fun i hi => absurd hi (Nat.not_lt_zero _)⟩)
  rw [c2, c3, c4, c6, i2, i3, i4, i6] at hDJ
  exact ⟨n, _, hx, none, rfl, rfl, J, rfl, (heq.trans hCe).trans (hJ.mono scy_scz), hDJ, (hJ 19 3 rfl).trans (by subst hC; rfl)⟩
theorem c_xLiveN (d : Nat) {a kd np n9 wn lw : Nat} {I0 I : Nat → Nat → Int32} {X : MX} {fg dr : Int32} (h4 : kd ≠ 4) (hlk : lkK X a kd) (ho : xOk I0 np n9) (heq : eqO scz I0 I) (hfg0 : I0 a 1 = fg) (hwk0 : I0 a 3 = nI wn) (hwn : wn ≤ 719) (hd : -20 ≤ dr.toInt ∧ dr.toInt ≤ 20) (hlw : lw < 3) :
    mjEvP (d + 5) nyX3_live [.ref 19, .ref 1, .ref a, .int dr, .int (nI lw)] (mjH I X) (xLvP I0 X n9 fg (mS I0 np n9 (asOf kd) fg dr wn (nI lw))) := by
  have hfg : I a 1 = fg := (eqO_a heq scz_lt hlk.1 1).trans hfg0
  refine mjEvP.of ?_
  show mjGo (d + 5) nyX3_live 0 ([some (.ref 19), some (.ref 1), some (.ref a), some (.int dr), some (.int (nI lw)), none, none, none], [], mjH I X) _
  refine mjGo.run 1 (pc' := 1) (F' := ([some (.ref 19), some (.ref 1), some (.ref a), some (.int dr), some (.int (nI lw)), none, none, none], [.ref a], mjH I X)) (fun _ => rfl) ?_
  refine mjGo.op (pc' := 4) (F' := ([some (.ref 19), some (.ref 1), some (.ref a), some (.int dr), some (.int (nI lw)), none, none, none], [.int fg], mjH I X)) (o := mjgetI [0, 1, 2, 4, 5, 7, 8, 9] 1 4) rfl (fun _ => lkK_get hlk hfg) ?_
  refine mjGo.run 9 (pc' := 20) (F' := ([some (.ref 19), some (.ref 1), some (.ref a), some (.int dr), some (.int (nI lw)), some (.int fg), some (.int 0), some (.int 0)], [.ref a], mjH I X)) (fun _ => rfl) ?_
  refine mjGo.callL (o := some (.int 0)) (h' := mjH I X) (nx := 23) rfl rfl rfl (hlk.2.1) (by have q := v_cho (d := d + 4) (h := mjH I X) ((mjH_T hlk.1).trans hlk.2.2.1) hlk.2.2.2; rw [if_neg h4] at q; exact q) ?_
  show mjGo _ _ 23 ([some (.ref 19), some (.ref 1), some (.ref a), some (.int dr), some (.int (nI lw)), some (.int fg), some (.int 0), some (.int 0)], [.int 0], mjH I X) _
  refine mjGo.run 7 (pc' := 75) (F' := ([some (.ref 19), some (.ref 1), some (.ref a), some (.int dr), some (.int (nI lw)), some (.int fg), some (.int 0), some (.int 0)], [.int (nI lw), .int dr, .int fg, .ref a, .ref 1, .ref 19], mjH I X)) (fun _ => rfl) ?_
  obtain ⟨o9, h9, hev, rfl, J, rfl, heJ, hDJ, h3J⟩ := c_xLv d (X := X) (fg := fg) (dr := dr) (lw := lw) hlk ho heq hwk0 hwn hd hlw
  refine mjGo.call (n := 6) (j := 43) (nx := 78) (o := none) (h' := mjH J (mkX X)) (fun _ => rfl) (hev) ?_
  show mjGo _ _ 78 ([some (.ref 19), some (.ref 1), some (.ref a), some (.int dr), some (.int (nI lw)), some (.int fg), some (.int 0), some (.int 0)], [], mjH J (mkX X)) _
  exact mjGo.ret 1 (fun _ => rfl) ⟨none, rfl, rfl, J, rfl, heJ, hDJ, h3J⟩
theorem x_best_loop {d a np n9 wn lw : Nat} {I0 : Nat → Nat → Int32} {X : MX} {dr : Int32} (hlk : lkK X a 4) (ho : xOk I0 np n9) (hwk0 : I0 a 3 = nI wn) (hwn : wn ≤ 719) (hd : -20 ≤ dr.toInt ∧ dr.toInt ≤ 20) (hlw : lw < 3) : ∀ (fuel k9 : Nat) (I : Nat → Nat → Int32), 10 < k9 + fuel → 1 ≤ k9 → k9 ≤ 10 → eqO scz I0 I →
    mjGo (d + 5) nyX3_live 12 ([some (.ref 19), some (.ref 1), some (.ref a), some (.int dr), some (.int (nI lw)), some (.int (bstS (mBc I0 np n9 dr wn (nI lw)) (k9 - 1)).1), some (.int (bstS (mBc I0 np n9 dr wn (nI lw)) (k9 - 1)).2), some (.int (nI k9))], [], mjH I (mkX X)) (fun x => ∃ o, x.1 = .inl o ∧ (xLvP I0 X n9 (mBf I0 np n9 dr wn (nI lw)) (mS I0 np n9 2 (mBf I0 np n9 dr wn (nI lw)) dr wn (nI lw))) o x.2) := by
  intro fuel
  induction fuel with
  | zero => intro k9 I h1 h2 h3; omega
  | succ fuel ih =>
    intro k9 I h1 h2 h3 heq
    refine mjGo.run 2 (pc' := 16) (F' := ([some (.ref 19), some (.ref 1), some (.ref a), some (.int dr), some (.int (nI lw)), some (.int (bstS (mBc I0 np n9 dr wn (nI lw)) (k9 - 1)).1), some (.int (bstS (mBc I0 np n9 dr wn (nI lw)) (k9 - 1)).2), some (.int (nI k9))], [.int 9, .int (nI k9)], mjH I (mkX X))) (fun _ => rfl) ?_
    refine mjGo.run 1 (pc' := (bif decide (9 < (nI k9)) then 67 else 19)) (F' := ([some (.ref 19), some (.ref 1), some (.ref a), some (.int dr), some (.int (nI lw)), some (.int (bstS (mBc I0 np n9 dr wn (nI lw)) (k9 - 1)).1), some (.int (bstS (mBc I0 np n9 dr wn (nI lw)) (k9 - 1)).2), some (.int (nI k9))], [], mjH I (mkX X))) (fun _ => rfl) ?_
    refine mjGo.br (fun q0 => ?_) (fun q0 => ?_)
    · show mjGo _ _ 67 _ _
      rw [show (9 : Int32) = nI 9 from rfl, nI_ltI (by omega) (by omega)] at q0
      have e : k9 = 10 := by omega
      subst e
      show mjGo _ _ 67 ([some (.ref 19), some (.ref 1), some (.ref a), some (.int dr), some (.int (nI lw)), some (.int (mBf I0 np n9 dr wn (nI lw))), some (.int (bstS (mBc I0 np n9 dr wn (nI lw)) (10 - 1)).2), some (.int (nI 10))], [], mjH I (mkX X)) _
      refine mjGo.run 6 (pc' := 75) (F' := ([some (.ref 19), some (.ref 1), some (.ref a), some (.int dr), some (.int (nI lw)), some (.int (mBf I0 np n9 dr wn (nI lw))), some (.int (bstS (mBc I0 np n9 dr wn (nI lw)) (10 - 1)).2), some (.int (nI 10))], [.int (nI lw), .int dr, .int (mBf I0 np n9 dr wn (nI lw)), .ref a, .ref 1, .ref 19], mjH I (mkX X))) (fun _ => rfl) ?_
      obtain ⟨o9, h9, hev, rfl, J, rfl, heJ, hDJ, h3J⟩ := c_xLv d (X := (mkX X)) (fg := (mBf I0 np n9 dr wn (nI lw))) (dr := dr) (lw := lw) hlk ho heq hwk0 hwn hd hlw
      refine mjGo.call (n := 6) (j := 43) (nx := 78) (o := none) (h' := mjH J (mkX (mkX X))) (fun _ => rfl) (hev) ?_
      show mjGo _ _ 78 ([some (.ref 19), some (.ref 1), some (.ref a), some (.int dr), some (.int (nI lw)), some (.int (mBf I0 np n9 dr wn (nI lw))), some (.int (bstS (mBc I0 np n9 dr wn (nI lw)) (10 - 1)).2), some (.int (nI 10))], [], mjH J (mkX (mkX X))) _
      exact mjGo.ret 1 (fun _ => rfl) ⟨none, rfl, rfl, J, congrArg (mjH J) mkX_mk, heJ, hDJ, h3J⟩
    · show mjGo _ _ 19 _ _
      rw [show (9 : Int32) = nI 9 from rfl, nI_ltI (by omega) (by omega)] at q0
      refine mjGo.run 1 (pc' := 20) (F' := ([some (.ref 19), some (.ref 1), some (.ref a), some (.int dr), some (.int (nI lw)), some (.int (bstS (mBc I0 np n9 dr wn (nI lw)) (k9 - 1)).1), some (.int (bstS (mBc I0 np n9 dr wn (nI lw)) (k9 - 1)).2), some (.int (nI k9))], [.ref a], mjH I (mkX X))) (fun _ => rfl) ?_
      refine mjGo.callL (o := some (.int 1)) (h' := mjH I (mkX X)) (nx := 23) rfl rfl rfl (hlk.2.1) (by have q := v_cho (d := d + 4) (h := mjH I (mkX X)) ((mjH_T hlk.1).trans hlk.2.2.1) hlk.2.2.2; rw [if_pos rfl] at q; exact q) ?_
      show mjGo _ _ 23 ([some (.ref 19), some (.ref 1), some (.ref a), some (.int dr), some (.int (nI lw)), some (.int (bstS (mBc I0 np n9 dr wn (nI lw)) (k9 - 1)).1), some (.int (bstS (mBc I0 np n9 dr wn (nI lw)) (k9 - 1)).2), some (.int (nI k9))], [.int 1], mjH I (mkX X)) _
      refine mjGo.run 7 (pc' := 34) (F' := ([some (.ref 19), some (.ref 1), some (.ref a), some (.int dr), some (.int (nI lw)), some (.int (bstS (mBc I0 np n9 dr wn (nI lw)) (k9 - 1)).1), some (.int (bstS (mBc I0 np n9 dr wn (nI lw)) (k9 - 1)).2), some (.int (nI k9))], [.int (nI lw), .int dr, .int (nI k9), .ref a, .ref 1, .ref 19], mjH I (mkX X))) (fun _ => rfl) ?_
      obtain ⟨o9, h9, hev, rfl, J, rfl, heJ, hDJ, h3J⟩ := c_xLv d (X := (mkX X)) (fg := (nI k9)) (dr := dr) (lw := lw) hlk ho heq hwk0 hwn hd hlw
      refine mjGo.call (n := 6) (j := 43) (nx := 37) (o := none) (h' := mjH J (mkX (mkX X))) (fun _ => rfl) (hev) ?_
      show mjGo _ _ 37 ([some (.ref 19), some (.ref 1), some (.ref a), some (.int dr), some (.int (nI lw)), some (.int (bstS (mBc I0 np n9 dr wn (nI lw)) (k9 - 1)).1), some (.int (bstS (mBc I0 np n9 dr wn (nI lw)) (k9 - 1)).2), some (.int (nI k9))], [], mjH J (mkX (mkX X))) _
      refine mjGo.run 2 (pc' := (bif decide ((nI k9) = 0) then 51 else 42)) (F' := ([some (.ref 19), some (.ref 1), some (.ref a), some (.int dr), some (.int (nI lw)), some (.int (bstS (mBc I0 np n9 dr wn (nI lw)) (k9 - 1)).1), some (.int (bstS (mBc I0 np n9 dr wn (nI lw)) (k9 - 1)).2), some (.int (nI k9))], [], mjH J (mkX (mkX X)))) (fun _ => rfl) ?_
      refine mjGo.br (fun q1 => ?_) (fun q1 => ?_)
      · show mjGo _ _ 51 _ _
        refine mjGo.run 7 (pc' := 12) (F' := ([some (.ref 19), some (.ref 1), some (.ref a), some (.int dr), some (.int (nI lw)), some (.int (nI k9)), some (.int (J 19 9)), some (.int ((nI k9) + 1))], [], mjH J (mkX (mkX X)))) (fun _ => rfl) ?_
        exact absurd q1 (nI_ne0 (by omega) (by omega))
      · show mjGo _ _ 42 _ _
        refine mjGo.run 4 (pc' := (bif decide ((bstS (mBc I0 np n9 dr wn (nI lw)) (k9 - 1)).2 ≤ (J 19 9)) then 61 else 51)) (F' := ([some (.ref 19), some (.ref 1), some (.ref a), some (.int dr), some (.int (nI lw)), some (.int (bstS (mBc I0 np n9 dr wn (nI lw)) (k9 - 1)).1), some (.int (bstS (mBc I0 np n9 dr wn (nI lw)) (k9 - 1)).2), some (.int (nI k9))], [], mjH J (mkX (mkX X)))) (fun _ => rfl) ?_
        refine mjGo.br (fun q2 => ?_) (fun q2 => ?_)
        · show mjGo _ _ 61 _ _
          refine mjGo.run 2 (pc' := 12) (F' := ([some (.ref 19), some (.ref 1), some (.ref a), some (.int dr), some (.int (nI lw)), some (.int (bstS (mBc I0 np n9 dr wn (nI lw)) (k9 - 1)).1), some (.int (bstS (mBc I0 np n9 dr wn (nI lw)) (k9 - 1)).2), some (.int ((nI k9) + 1))], [], mjH J (mkX (mkX X)))) (fun _ => rfl) ?_
          rw [xDS_cost hDJ] at q2
          have e1 : k9 - 1 + 1 = k9 := by omega
          have k8 := ih (k9 + 1) J (by omega) (by omega) (by omega) heJ
          rw [show k9 + 1 - 1 = k9 - 1 + 1 by omega, bstS, e1, ← nI_1] at k8
          rw [if_neg (show ¬ mBc I0 np n9 dr wn (nI lw) k9 < (bstS (mBc I0 np n9 dr wn (nI lw)) (k9 - 1)).2 by rw [Int32.not_lt]; exact q2)] at k8
          rw [mkX_mk]
          exact k8
        · show mjGo _ _ 51 _ _
          refine mjGo.run 7 (pc' := 12) (F' := ([some (.ref 19), some (.ref 1), some (.ref a), some (.int dr), some (.int (nI lw)), some (.int (nI k9)), some (.int (J 19 9)), some (.int ((nI k9) + 1))], [], mjH J (mkX (mkX X)))) (fun _ => rfl) ?_
          rw [xDS_cost hDJ] at q2 ⊢
          have e1 : k9 - 1 + 1 = k9 := by omega
          have k8 := ih (k9 + 1) J (by omega) (by omega) (by omega) heJ
          rw [show k9 + 1 - 1 = k9 - 1 + 1 by omega, bstS, e1, ← nI_1] at k8
          rw [if_pos (show mBc I0 np n9 dr wn (nI lw) k9 < (bstS (mBc I0 np n9 dr wn (nI lw)) (k9 - 1)).2 from Int32.not_le.mp q2)] at k8
          rw [mkX_mk]
          exact k8
theorem c_xLiveB (d : Nat) {a np n9 wn lw : Nat} {I0 I : Nat → Nat → Int32} {X : MX} {fg dr : Int32} (hlk : lkK X a 4) (ho : xOk I0 np n9) (heq : eqO scz I0 I) (hfg0 : I0 a 1 = fg) (hwk0 : I0 a 3 = nI wn) (hwn : wn ≤ 719) (hd : -20 ≤ dr.toInt ∧ dr.toInt ≤ 20) (hlw : lw < 3) :
    mjEvP (d + 5) nyX3_live [.ref 19, .ref 1, .ref a, .int dr, .int (nI lw)] (mjH I X) (xLvP I0 X n9 (mBf I0 np n9 dr wn (nI lw)) (mS I0 np n9 2 (mBf I0 np n9 dr wn (nI lw)) dr wn (nI lw))) := by
  have hfg : I a 1 = fg := (eqO_a heq scz_lt hlk.1 1).trans hfg0
  refine mjEvP.of ?_
  show mjGo (d + 5) nyX3_live 0 ([some (.ref 19), some (.ref 1), some (.ref a), some (.int dr), some (.int (nI lw)), none, none, none], [], mjH I X) _
  refine mjGo.run 1 (pc' := 1) (F' := ([some (.ref 19), some (.ref 1), some (.ref a), some (.int dr), some (.int (nI lw)), none, none, none], [.ref a], mjH I X)) (fun _ => rfl) ?_
  refine mjGo.op (pc' := 4) (F' := ([some (.ref 19), some (.ref 1), some (.ref a), some (.int dr), some (.int (nI lw)), none, none, none], [.int fg], mjH I X)) (o := mjgetI [0, 1, 2, 4, 5, 7, 8, 9] 1 4) rfl (fun _ => lkK_get hlk hfg) ?_
  refine mjGo.run 6 (pc' := 14) (F' := ([some (.ref 19), some (.ref 1), some (.ref a), some (.int dr), some (.int (nI lw)), some (.int fg), some (.int 0), some (.int 0)], [.int 0], mjH I X)) (fun _ => rfl) ?_
  refine mjGo.run 3 (pc' := 20) (F' := ([some (.ref 19), some (.ref 1), some (.ref a), some (.int dr), some (.int (nI lw)), some (.int fg), some (.int 0), some (.int 0)], [.ref a], mjH I X)) (fun _ => rfl) ?_
  refine mjGo.callL (o := some (.int 1)) (h' := mjH I X) (nx := 23) rfl rfl rfl (hlk.2.1) (by have q := v_cho (d := d + 4) (h := mjH I X) ((mjH_T hlk.1).trans hlk.2.2.1) hlk.2.2.2; rw [if_pos rfl] at q; exact q) ?_
  show mjGo _ _ 23 ([some (.ref 19), some (.ref 1), some (.ref a), some (.int dr), some (.int (nI lw)), some (.int fg), some (.int 0), some (.int 0)], [.int 1], mjH I X) _
  refine mjGo.run 7 (pc' := 34) (F' := ([some (.ref 19), some (.ref 1), some (.ref a), some (.int dr), some (.int (nI lw)), some (.int fg), some (.int 0), some (.int 0)], [.int (nI lw), .int dr, .int 0, .ref a, .ref 1, .ref 19], mjH I X)) (fun _ => rfl) ?_
  obtain ⟨o9, h9, hev, rfl, J, rfl, heJ, hDJ, h3J⟩ := c_xLv d (X := X) (fg := 0) (dr := dr) (lw := lw) hlk ho heq hwk0 hwn hd hlw
  refine mjGo.call (n := 6) (j := 43) (nx := 37) (o := none) (h' := mjH J (mkX X)) (fun _ => rfl) (hev) ?_
  show mjGo _ _ 37 ([some (.ref 19), some (.ref 1), some (.ref a), some (.int dr), some (.int (nI lw)), some (.int fg), some (.int 0), some (.int 0)], [], mjH J (mkX X)) _
  refine mjGo.run 9 (pc' := 12) (F' := ([some (.ref 19), some (.ref 1), some (.ref a), some (.int dr), some (.int (nI lw)), some (.int 0), some (.int (J 19 9)), some (.int (0 + 1))], [], mjH J (mkX X))) (fun _ => rfl) ?_
  rw [xDS_cost hDJ]
  exact x_best_loop hlk ho hwk0 hwn hd hlw 10 1 J (by omega) (by omega) (by omega) heJ
theorem c_xLive (d : Nat) {a kd np n9 wn lw : Nat} {I0 I : Nat → Nat → Int32} {X : MX} {fg dr : Int32} (hlk : lkK X a kd) (ho : xOk I0 np n9) (heq : eqO scz I0 I) (hfg0 : I0 a 1 = fg) (hwk0 : I0 a 3 = nI wn) (hwn : wn ≤ 719) (hd : -20 ≤ dr.toInt ∧ dr.toInt ≤ 20) (hlw : lw < 3) :
    mjEvP (d + 5) nyX3_live [.ref 19, .ref 1, .ref a, .int dr, .int (nI lw)] (mjH I X) (xLvP I0 X n9 (if kd = 4 then mBf I0 np n9 dr wn (nI lw) else fg) (mD I0 np n9 (nI kd) fg dr wn (nI lw))) := by
  unfold mD
  by_cases h : kd = 4
  · subst h
    rw [if_pos rfl, if_pos (show nI 4 = 4 from rfl)]
    exact c_xLiveB d hlk ho heq hfg0 hwk0 hwn hd hlw
  · have h8 := hlk.2.2.2
    rw [if_neg h, if_neg (show ¬ nI kd = 4 by rw [show (4 : Int32) = nI 4 from rfl, nI_eq (by omega) (by omega)]; exact h)]
    have q := c_xLiveN d h hlk ho heq hfg0 hwk0 hwn hd hlw
    unfold asOf at q
    rw [if_neg h] at q
    exact q
