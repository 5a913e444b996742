/-! calls with new lookers: bestFigure, pays -/
theorem xOk.eq {I J : Nat → Nat → Int32} {np n9 n : Nat} (h : xOk I np n9) (e : eqN n I J) (hn : 75 ≤ n) : xOk J np n9 := by
  have key : ∀ k, k < 75 → (∀ j, scr k j = false) → J k = I k := fun k h1 h2 => e.row h2 (by omega)
  unfold xOk mOk at h ⊢
  rw [key 1 (by omega) (fun _ => rfl), key 2 (by omega) (fun _ => rfl), key 3 (by omega) (fun _ => rfl), key 4 (by omega) (fun _ => rfl), key 6 (by omega) (fun _ => rfl), key 44 (by omega) (fun _ => rfl), key 45 (by omega) (fun _ => rfl), key 46 (by omega) (fun _ => rfl), key 47 (by omega) (fun _ => rfl), key 52 (by omega) (fun _ => rfl)]
  exact h
theorem mD_N {I J : Nat → Nat → Int32} {n : Nat} (e : eqN n I J) (hn : 75 ≤ n) : mD J = mD I ∧ mBf J = mBf I ∧ mS J = mS I := by
  have key : ∀ k, k < 75 → (∀ j, scr k j = false) → J k = I k := fun k h1 h2 => e.row h2 (by omega)
  have e45 := key 45 (by omega) (fun _ => rfl)
  have e46 := key 46 (by omega) (fun _ => rfl)
  have e47 := key 47 (by omega) (fun _ => rfl)
  have e52 := key 52 (by omega) (fun _ => rfl)
  refine ⟨mD_eq e45 e46 e47 e52, mBf_eq e45 e46 e47 e52, ?_⟩
  funext np n9 k f dr wn law
  unfold mS
  rw [e45, e46, e47, e52]
theorem nwI_eq0 {I : Nat → Nat → Int32} {X : MX} : eqN (X.2.2.2.1 + 75) I (nwI I X) := fun k j _ h => if_neg (by omega)
theorem lkI_0 {I : Nat → Nat → Int32} {a : Nat} {nm fg dr wk : Int32} : lkI I a nm fg dr wk a 0 = nm := by
  unfold lkI mjU
  simp
theorem lkI_1 {I : Nat → Nat → Int32} {a : Nat} {nm fg dr wk : Int32} : lkI I a nm fg dr wk a 1 = fg := by
  unfold lkI mjU
  simp
theorem lkI_2 {I : Nat → Nat → Int32} {a : Nat} {nm fg dr wk : Int32} : lkI I a nm fg dr wk a 2 = dr := by
  unfold lkI mjU
  simp
theorem lkI_3 {I : Nat → Nat → Int32} {a : Nat} {nm fg dr wk : Int32} : lkI I a nm fg dr wk a 3 = wk := by
  unfold lkI mjU
  simp
theorem grw_new {X : MX} {c : Nat} : grw X (mkX (nwX X c)) := ⟨Nat.le_succ _, by show X.2.2.2.1 + 1 ≤ _; omega, by show X.2.2.2.2.1 + 1 ≤ _; omega, by show X.2.2.2.2.2 + 4 ≤ _; omega⟩
theorem x_bestFigure (d : Nat) {np n9 nl lw i a kd wn : Nat} {I : Nat → Nat → Int32} {X : MX} (ho : xOk I np n9) (hn : nl ≤ 6) (h16 : I 1 6 = nI nl) (hi : i < nl) (hl : lkR I X 1 44 i a kd wn) (hlw : lw < 3) (h18 : I 1 8 = nI lw) (hN : X.2.2.2.1 ≤ 800000) : mjEvP (d + 7) nyX11_bestFigure [.ref 0, .int (nI i)] (mjH I X) (fun o h2 => ∃ J Y, h2 = mjH J Y ∧ eqN (X.2.2.2.1 + 75) I J ∧ xle X Y ∧ grw X Y ∧ o = some (.int (mBf I np n9 (I 50 i) wn (nI lw)))) := by
  obtain ⟨hP, hlk, l0, l1, l2, l3, l4, hwn, l5, hdr⟩ := hl
  have e0 : eqN (X.2.2.2.1 + 75) I I := eqN.rf
  have x0 : xle X X := xle.rf
  refine mjEvP.of ?_
  show mjGo (d + 7) nyX11_bestFigure 0 ([some (.ref 0), some (.int (nI i)), none], [], mjH I X) _
  refine mjGo.run 2 (pc' := 2) (F' := ([some (.ref 0), some (.int (nI i)), none], [.int (nI i), .ref 0], mjH I X)) (fun _ => rfl) ?_
  refine mjGo.call (n := 2) (j := 91) (nx := 5) (o := some (.ref a)) (h' := mjH I X) (fun _ => rfl) (c_lkYes _ hn h16 hi hP) ?_
  show mjGo _ _ 5 ([some (.ref 0), some (.int (nI i)), none], [.ref a], mjH I X) _
  refine mjGo.run 7 (pc' := 20) (F' := ([some (.ref 0), some (.int (nI i)), some (.ref a)], [.ref 1, .ref 19], mjH I X)) (fun _ => rfl) ?_
  have e1 : eqN (X.2.2.2.1 + 75) I (nwI I X) := nwI_eq0
  have x1 : xle X (nwX X 0) := nwX_le
  refine mjGo.op (pc' := 23) (F' := ([some (.ref 0), some (.int (nI i)), some (.ref a)], [.ref (X.2.2.2.1 + 75), .ref 1, .ref 19], mjH (nwI I X) (nwX X 0))) (o := mjnew 0 4 23) rfl (fun _ => new_op (by omega)) ?_
  refine mjGo.run 2 (pc' := 25) (F' := ([some (.ref 0), some (.int (nI i)), some (.ref a)], [.ref a, .ref (X.2.2.2.1 + 75), .ref (X.2.2.2.1 + 75), .ref 1, .ref 19], mjH (nwI I X) (nwX X 0))) (fun _ => rfl) ?_
  refine mjGo.op (pc' := 28) (F' := ([some (.ref 0), some (.int (nI i)), some (.ref a)], [.int (nI i), .ref (X.2.2.2.1 + 75), .ref (X.2.2.2.1 + 75), .ref 1, .ref 19], mjH (nwI I X) (nwX X 0))) (o := mjgetI [0, 1, 2, 4, 5, 7, 8, 9] 0 28) rfl (fun _ => lkK_get (hlk.le x1) ((e1 a 0 (scr_hi hlk.1) hlk.2.1).trans l0)) ?_
  refine mjGo.run 1 (pc' := 29) (F' := ([some (.ref 0), some (.int (nI i)), some (.ref a)], [.ref a, .int (nI i), .ref (X.2.2.2.1 + 75), .ref (X.2.2.2.1 + 75), .ref 1, .ref 19], mjH (nwI I X) (nwX X 0))) (fun _ => rfl) ?_
  refine mjGo.op (pc' := 32) (F' := ([some (.ref 0), some (.int (nI i)), some (.ref a)], [.int (I 49 i), .int (nI i), .ref (X.2.2.2.1 + 75), .ref (X.2.2.2.1 + 75), .ref 1, .ref 19], mjH (nwI I X) (nwX X 0))) (o := mjgetI [0, 1, 2, 4, 5, 7, 8, 9] 1 32) rfl (fun _ => lkK_get (hlk.le x1) ((e1 a 1 (scr_hi hlk.1) hlk.2.1).trans l1)) ?_
  refine mjGo.run 1 (pc' := 33) (F' := ([some (.ref 0), some (.int (nI i)), some (.ref a)], [.ref a, .int (I 49 i), .int (nI i), .ref (X.2.2.2.1 + 75), .ref (X.2.2.2.1 + 75), .ref 1, .ref 19], mjH (nwI I X) (nwX X 0))) (fun _ => rfl) ?_
  refine mjGo.op (pc' := 36) (F' := ([some (.ref 0), some (.int (nI i)), some (.ref a)], [.int (I 50 i), .int (I 49 i), .int (nI i), .ref (X.2.2.2.1 + 75), .ref (X.2.2.2.1 + 75), .ref 1, .ref 19], mjH (nwI I X) (nwX X 0))) (o := mjgetI [0, 1, 2, 4, 5, 7, 8, 9] 2 36) rfl (fun _ => lkK_get (hlk.le x1) ((e1 a 2 (scr_hi hlk.1) hlk.2.1).trans l2)) ?_
  refine mjGo.run 1 (pc' := 37) (F' := ([some (.ref 0), some (.int (nI i)), some (.ref a)], [.ref a, .int (I 50 i), .int (I 49 i), .int (nI i), .ref (X.2.2.2.1 + 75), .ref (X.2.2.2.1 + 75), .ref 1, .ref 19], mjH (nwI I X) (nwX X 0))) (fun _ => rfl) ?_
  refine mjGo.op (pc' := 40) (F' := ([some (.ref 0), some (.int (nI i)), some (.ref a)], [.int (I 51 i), .int (I 50 i), .int (I 49 i), .int (nI i), .ref (X.2.2.2.1 + 75), .ref (X.2.2.2.1 + 75), .ref 1, .ref 19], mjH (nwI I X) (nwX X 0))) (o := mjgetI [0, 1, 2, 4, 5, 7, 8, 9] 3 40) rfl (fun _ => lkK_get (hlk.le x1) ((e1 a 3 (scr_hi hlk.1) hlk.2.1).trans (l3.trans l4.symm))) ?_
  have x2 : xle X (nwX X 0) := nwX_le
  obtain ⟨I1, hI1⟩ : ∃ I1, I1 = (lkI (nwI I X) (X.2.2.2.1 + 75) (nI i) (I 49 i) (I 50 i) (I 51 i)) := ⟨_, rfl⟩
  have e2 : eqN (X.2.2.2.1 + 75) I I1 := by rw [hI1]; exact nwI_eq
  have b0 : I1 (X.2.2.2.1 + 75) 0 = (nI i) := by rw [hI1]; exact lkI_0
  have b1 : I1 (X.2.2.2.1 + 75) 1 = (I 49 i) := by rw [hI1]; exact lkI_1
  have b2 : I1 (X.2.2.2.1 + 75) 2 = (I 50 i) := by rw [hI1]; exact lkI_2
  have b3 : I1 (X.2.2.2.1 + 75) 3 = (nI wn) := by rw [hI1]; exact lkI_3.trans l4
  refine mjGo.callR (j := 11) (nx := 43) (o := none) (h' := mjH I1 (nwX X 0)) rfl rfl rfl (Nat.lt_succ_self _) ((by rw [hI1]; exact c_in0 (kd := 4) _ (nwX_K (X := X) (kd := 4) (by omega)))) ?_
  show mjGo _ _ 43 ([some (.ref 0), some (.int (nI i)), some (.ref a)], [.ref (X.2.2.2.1 + 75), .ref 1, .ref 19], mjH I1 (nwX X 0)) _
  refine mjGo.run 1 (pc' := 44) (F' := ([some (.ref 0), some (.int (nI i)), some (.ref a)], [.ref a, .ref (X.2.2.2.1 + 75), .ref 1, .ref 19], mjH I1 (nwX X 0))) (fun _ => rfl) ?_
  refine mjGo.op (pc' := 47) (F' := ([some (.ref 0), some (.int (nI i)), some (.ref a)], [.int (I 50 i), .ref (X.2.2.2.1 + 75), .ref 1, .ref 19], mjH I1 (nwX X 0))) (o := mjgetI [0, 1, 2, 4, 5, 7, 8, 9] 2 47) rfl (fun _ => lkK_get (hlk.le x2) ((e2 a 2 (scr_hi hlk.1) hlk.2.1).trans l2)) ?_
  refine mjGo.run 3 (pc' := 54) (F' := ([some (.ref 0), some (.int (nI i)), some (.ref a)], [.int (I1 1 8), .int (I 50 i), .ref (X.2.2.2.1 + 75), .ref 1, .ref 19], mjH I1 (nwX X 0))) (fun _ => rfl) ?_
  have o3 := ho.eq e2 (by omega)
  obtain ⟨o9, h9, hev3, rfl, J3, rfl, heJ3, hDJ3, h3J3⟩ := c_xLive _ (X := (nwX X 0)) (I0 := I1) (I := I1) (fg := I 49 i) (dr := I 50 i) (lw := lw) (nwX_K (X := X) (kd := 4) (by omega)) o3 eqO.rf b1 b3 hwn hdr hlw
  rw [(mD_N e2 (by omega)).1] at hDJ3
  have e3 : eqN (X.2.2.2.1 + 75) I J3 := e2.trans (eqN.of heJ3 scz_scr) (Nat.le_refl (X.2.2.2.1 + 75))
  have x3 : xle X (mkX (nwX X 0)) := x2.trans mkX_le
  refine mjGo.call (n := 5) (j := 44) (nx := 57) (o := none) (h' := mjH J3 (mkX (nwX X 0))) (fun _ => rfl) ((by rw [show (I1 1 8) = nI lw from (e2 1 8 rfl (by omega)).trans h18]; exact hev3)) ?_
  show mjGo _ _ 57 ([some (.ref 0), some (.int (nI i)), some (.ref a)], [], mjH J3 (mkX (nwX X 0))) _
  refine mjGo.ret 4 (fun _ => rfl) ⟨_, rfl, J3, (mkX (nwX X 0)), rfl, e3, x3, grw_new, ?_⟩
  show some (Value.int (J3 19 3)) = _
  rw [h3J3, if_pos rfl, (mD_N e2 (by omega)).2.1]
theorem m_bestFigure (d : Nat) {i kd wn np n9 nl lw : Nat} {I : Nat → Nat → Int32} {X : MX} (hb : MB I i kd wn np n9 nl lw) : mjEvP (d + 7) nyX12_bestFigure [.ref 43, .int (nI i)] (mjH I X) (fun o h2 => ∃ J, h2 = mjH J X ∧ eqO scd I J ∧ o = some (.int (mBf I np n9 (I 50 i) wn (nI lw)))) := by
  have ⟨ho, hn, h44, hi, m48, m51, hwn, m443⟩ := hb
  refine mjEvP.of ?_
  show mjGo (d + 7) nyX12_bestFigure 0 ([some (.ref 43), some (.int (nI i))], [], mjH I X) _
  refine mjGo.run 2 (pc' := 2) (F' := ([some (.ref 43), some (.int (nI i))], [.int (nI i), .ref 43], mjH I X)) (fun _ => rfl) ?_
  refine mjGo.call (n := 2) (j := 138) (nx := 5) (o := some (.int 1)) (h' := mjH I X) (fun _ => rfl) ((by have q := c_mIsL (d + 5) (nI i) (I := I) (X := X); rw [mIsL, h44, mIn_yes hi (by omega)] at q; exact q)) ?_
  show mjGo _ _ 5 ([some (.ref 43), some (.int (nI i))], [.int 1], mjH I X) _
  refine mjGo.run 5 (pc' := 14) (F' := ([some (.ref 43), some (.int (nI i))], [.int (nI i), .ref 50, .ref 43], mjH I X)) (fun _ => rfl) ?_
  refine mjGo.op (pc' := 15) (F' := ([some (.ref 43), some (.int (nI i))], [.int (I 50 i), .ref 43], mjH I X)) (o := mjiald 15) rfl (fun _ => mjald_n (n := 6) (by omega) (by decide) (rfl) (rfl)) ?_
  refine mjGo.run 3 (pc' := 20) (F' := ([some (.ref 43), some (.int (nI i))], [.int (nI i), .ref 51, .int (I 50 i), .ref 43], mjH I X)) (fun _ => rfl) ?_
  refine mjGo.op (pc' := 21) (F' := ([some (.ref 43), some (.int (nI i))], [.int (I 51 i), .int (I 50 i), .ref 43], mjH I X)) (o := mjiald 21) rfl (fun _ => mjald_n (n := 6) (by omega) (by decide) (rfl) (rfl)) ?_
  refine mjGo.run 4 (pc' := 27) (F' := ([some (.ref 43), some (.int (nI i))], [.int (I 44 3), .int (I 51 i), .int (I 50 i), .ref 43], mjH I X)) (fun _ => rfl) ?_
  obtain ⟨o9, h9, hev, J, rfl, heJ, rfl⟩ := c_mBest _ (dr := I 50 i) (wn := wn) (law := nI lw) (X := X) ho (eqO.rf (I := I)) hwn
  refine mjGo.call (n := 4) (j := 152) (nx := 30) (o := some (.int (mBf I np n9 (I 50 i) wn (nI lw)))) (h' := mjH J X) (fun _ => rfl) ((by rw [m51, m443]; exact hev)) ?_
  show mjGo _ _ 30 ([some (.ref 43), some (.int (nI i))], [.int (mBf I np n9 (I 50 i) wn (nI lw))], mjH J X) _
  refine mjGo.ret 2 (fun _ => rfl) ⟨_, rfl, J, rfl, heJ, rfl⟩
def xp_bestFigureN (I : Nat → Nat → Int32) (k : Int32) : Int32 := (-1)
theorem c_xp_bestFigureN (d : Nat) {I : Nat → Nat → Int32} {X : MX} (k : Int32) {nl : Nat} (hn : nl ≤ 6) (h16 : I 1 6 = nI nl) (hno : mIn k 0 (nI nl - 1) = 0) : mjEv (d + 7) nyX11_bestFigure [.ref 0, .int k] (mjH I X) (.inl (some (.int (xp_bestFigureN I k)))) (mjH I X) := by
  refine mjEv.of ?_
  show mjGo (d + 7) nyX11_bestFigure 0 ([some (.ref 0), some (.int k), none], [], mjH I X) _
  refine mjGo.run 2 (pc' := 2) (F' := ([some (.ref 0), some (.int k), none], [.int k, .ref 0], mjH I X)) (fun _ => rfl) ?_
  refine mjGo.call (n := 2) (j := 91) (nx := 5) (o := some (.null)) (h' := mjH I X) (fun _ => rfl) (c_lkNo _ hn h16 hno) ?_
  show mjGo _ _ 5 ([some (.ref 0), some (.int k), none], [.null], mjH I X) _
  have e9 : xp_bestFigureN I k = (-1) := by unfold xp_bestFigureN; rfl
  rw [e9]
  exact mjGo.ret 5 (fun _ => rfl) rfl
def mp_bestFigureN (I : Nat → Nat → Int32) (k : Int32) : Int32 := (-1)
theorem c_mp_bestFigureN (d : Nat) {I : Nat → Nat → Int32} {X : MX} (k : Int32) {nl : Nat} (h44 : I 44 1 = nI nl) (hno : mIn k 0 (nI nl - 1) = 0) : mjEv (d + 7) nyX12_bestFigure [.ref 43, .int k] (mjH I X) (.inl (some (.int (mp_bestFigureN I k)))) (mjH I X) := by
  refine mjEv.of ?_
  show mjGo (d + 7) nyX12_bestFigure 0 ([some (.ref 43), some (.int k)], [], mjH I X) _
  refine mjGo.run 2 (pc' := 2) (F' := ([some (.ref 43), some (.int k)], [.int k, .ref 43], mjH I X)) (fun _ => rfl) ?_
  refine mjGo.call (n := 2) (j := 138) (nx := 5) (o := some (.int 0)) (h' := mjH I X) (fun _ => rfl) ((by have q := c_mIsL (d + 5) k (I := I) (X := X); rw [mIsL, h44, hno] at q; exact q)) ?_
  show mjGo _ _ 5 ([some (.ref 43), some (.int k)], [.int 0], mjH I X) _
  have e9 : mp_bestFigureN I k = (-1) := by unfold mp_bestFigureN; rfl
  rw [e9]
  exact mjGo.ret 3 (fun _ => rfl) rfl
theorem k_bestFigure (d : Nat) (k : Int32) : CALL (d + 12) nyX11_bestFigure nyX12_bestFigure [.ref 0, .int k] [.ref 43, .int k] := CALL.scrN fun I X hR hN => by
  obtain ⟨np, n9, nl, lw, ho, ⟨hn, h16, h44⟩, ⟨hlw, h18, h443⟩, hlk⟩ := hR.lk
  by_cases h : mIn k 0 (nI nl - 1) = 0
  · refine ⟨_, ⟨I, X, c_xp_bestFigureN (d + 5) k hn h16 h, eqN.rf, xle.rf, grw.rf⟩, fun J Y hJ e hx => ?_⟩
    have q := c_mp_bestFigureN (d + 5) (I := J) (X := Y) k ((e 44 1 rfl (by omega)).trans h44) h
    exact ⟨J, q, eqN.rf⟩
  · obtain ⟨i, hi, rfl⟩ := mIn_no h (by omega)
    obtain ⟨a, kd, wn, hl⟩ := hlk i hi
    have hb : MB I i kd wn np n9 nl lw := ⟨ho.2.2.2.2.2.2, hn, h44, hi, hl.2.2.2.2.2.2.2.2.1, hl.2.2.2.2.2.2.1, hl.2.2.2.2.2.2.2.1, h443⟩
    obtain ⟨o, h9, hev, J, Y, rfl, hJ, hx, hg, rfl⟩ := x_bestFigure (d + 5) ho hn h16 hi hl hlw h18 hN
    refine ⟨_, ⟨J, Y, hev, hJ, hx, hg⟩, fun J Y hRJ e hx => ?_⟩
    obtain ⟨hb2, e49, e50, eD⟩ := hb.eq e (by omega)
    have eB := (mD_N e (by omega)).2.1
    have eS := (mD_N e (by omega)).2.2
    have e45 : J 45 = I 45 := e.row (fun _ => rfl) (by omega)
    obtain ⟨o, h9, hev, L, rfl, hL, rfl⟩ := m_bestFigure (d + 5) (X := Y) hb2
    simp only [e49, e50, eD, eB, eS, e45] at hev
    exact ⟨L, hev, eqN.of hL scd_scr⟩
theorem x_pays (d : Nat) {np n9 nl lw i a kd wn : Nat} {I : Nat → Nat → Int32} {X : MX} (ho : xOk I np n9) (hn : nl ≤ 6) (h16 : I 1 6 = nI nl) (hi : i < nl) (hl : lkR I X 1 44 i a kd wn) (hlw : lw < 3) (h18 : I 1 8 = nI lw) (hN : X.2.2.2.1 ≤ 800000) : mjEvP (d + 7) nyX11_pays [.ref 0, .int (nI i)] (mjH I X) (fun o h2 => ∃ J Y, h2 = mjH J Y ∧ eqN (X.2.2.2.1 + 75) I J ∧ xle X Y ∧ grw X Y ∧ o = some (.int (dyCost (mD I np n9 0 (I 49 i) (I 50 i) wn (nI lw)) - dyCost (mD I np n9 (nI kd) (I 49 i) (I 50 i) wn (nI lw))))) := by
  obtain ⟨hP, hlk, l0, l1, l2, l3, l4, hwn, l5, hdr⟩ := hl
  have e0 : eqN (X.2.2.2.1 + 75) I I := eqN.rf
  have x0 : xle X X := xle.rf
  refine mjEvP.of ?_
  show mjGo (d + 7) nyX11_pays 0 ([some (.ref 0), some (.int (nI i)), none, none], [], mjH I X) _
  refine mjGo.run 2 (pc' := 2) (F' := ([some (.ref 0), some (.int (nI i)), none, none], [.int (nI i), .ref 0], mjH I X)) (fun _ => rfl) ?_
  refine mjGo.call (n := 2) (j := 91) (nx := 5) (o := some (.ref a)) (h' := mjH I X) (fun _ => rfl) (c_lkYes _ hn h16 hi hP) ?_
  show mjGo _ _ 5 ([some (.ref 0), some (.int (nI i)), none, none], [.ref a], mjH I X) _
  refine mjGo.run 7 (pc' := 21) (F' := ([some (.ref 0), some (.int (nI i)), some (.ref a), none], [.ref 1, .ref 19], mjH I X)) (fun _ => rfl) ?_
  have e1 : eqN (X.2.2.2.1 + 75) I (nwI I X) := nwI_eq0
  have x1 : xle X (nwX X 4) := nwX_le
  refine mjGo.op (pc' := 24) (F' := ([some (.ref 0), some (.int (nI i)), some (.ref a), none], [.ref (X.2.2.2.1 + 75), .ref 1, .ref 19], mjH (nwI I X) (nwX X 4))) (o := mjnew 4 4 24) rfl (fun _ => new_op (by omega)) ?_
  refine mjGo.run 2 (pc' := 26) (F' := ([some (.ref 0), some (.int (nI i)), some (.ref a), none], [.ref a, .ref (X.2.2.2.1 + 75), .ref (X.2.2.2.1 + 75), .ref 1, .ref 19], mjH (nwI I X) (nwX X 4))) (fun _ => rfl) ?_
  refine mjGo.op (pc' := 29) (F' := ([some (.ref 0), some (.int (nI i)), some (.ref a), none], [.int (nI i), .ref (X.2.2.2.1 + 75), .ref (X.2.2.2.1 + 75), .ref 1, .ref 19], mjH (nwI I X) (nwX X 4))) (o := mjgetI [0, 1, 2, 4, 5, 7, 8, 9] 0 29) rfl (fun _ => lkK_get (hlk.le x1) ((e1 a 0 (scr_hi hlk.1) hlk.2.1).trans l0)) ?_
  refine mjGo.run 1 (pc' := 30) (F' := ([some (.ref 0), some (.int (nI i)), some (.ref a), none], [.ref a, .int (nI i), .ref (X.2.2.2.1 + 75), .ref (X.2.2.2.1 + 75), .ref 1, .ref 19], mjH (nwI I X) (nwX X 4))) (fun _ => rfl) ?_
  refine mjGo.op (pc' := 33) (F' := ([some (.ref 0), some (.int (nI i)), some (.ref a), none], [.int (I 49 i), .int (nI i), .ref (X.2.2.2.1 + 75), .ref (X.2.2.2.1 + 75), .ref 1, .ref 19], mjH (nwI I X) (nwX X 4))) (o := mjgetI [0, 1, 2, 4, 5, 7, 8, 9] 1 33) rfl (fun _ => lkK_get (hlk.le x1) ((e1 a 1 (scr_hi hlk.1) hlk.2.1).trans l1)) ?_
  refine mjGo.run 1 (pc' := 34) (F' := ([some (.ref 0), some (.int (nI i)), some (.ref a), none], [.ref a, .int (I 49 i), .int (nI i), .ref (X.2.2.2.1 + 75), .ref (X.2.2.2.1 + 75), .ref 1, .ref 19], mjH (nwI I X) (nwX X 4))) (fun _ => rfl) ?_
  refine mjGo.op (pc' := 37) (F' := ([some (.ref 0), some (.int (nI i)), some (.ref a), none], [.int (I 50 i), .int (I 49 i), .int (nI i), .ref (X.2.2.2.1 + 75), .ref (X.2.2.2.1 + 75), .ref 1, .ref 19], mjH (nwI I X) (nwX X 4))) (o := mjgetI [0, 1, 2, 4, 5, 7, 8, 9] 2 37) rfl (fun _ => lkK_get (hlk.le x1) ((e1 a 2 (scr_hi hlk.1) hlk.2.1).trans l2)) ?_
  refine mjGo.run 1 (pc' := 38) (F' := ([some (.ref 0), some (.int (nI i)), some (.ref a), none], [.ref a, .int (I 50 i), .int (I 49 i), .int (nI i), .ref (X.2.2.2.1 + 75), .ref (X.2.2.2.1 + 75), .ref 1, .ref 19], mjH (nwI I X) (nwX X 4))) (fun _ => rfl) ?_
  refine mjGo.op (pc' := 41) (F' := ([some (.ref 0), some (.int (nI i)), some (.ref a), none], [.int (I 51 i), .int (I 50 i), .int (I 49 i), .int (nI i), .ref (X.2.2.2.1 + 75), .ref (X.2.2.2.1 + 75), .ref 1, .ref 19], mjH (nwI I X) (nwX X 4))) (o := mjgetI [0, 1, 2, 4, 5, 7, 8, 9] 3 41) rfl (fun _ => lkK_get (hlk.le x1) ((e1 a 3 (scr_hi hlk.1) hlk.2.1).trans (l3.trans l4.symm))) ?_
  have x2 : xle X (nwX X 4) := nwX_le
  obtain ⟨I1, hI1⟩ : ∃ I1, I1 = (lkI (nwI I X) (X.2.2.2.1 + 75) (nI i) (I 49 i) (I 50 i) (I 51 i)) := ⟨_, rfl⟩
  have e2 : eqN (X.2.2.2.1 + 75) I I1 := by rw [hI1]; exact nwI_eq
  have b0 : I1 (X.2.2.2.1 + 75) 0 = (nI i) := by rw [hI1]; exact lkI_0
  have b1 : I1 (X.2.2.2.1 + 75) 1 = (I 49 i) := by rw [hI1]; exact lkI_1
  have b2 : I1 (X.2.2.2.1 + 75) 2 = (I 50 i) := by rw [hI1]; exact lkI_2
  have b3 : I1 (X.2.2.2.1 + 75) 3 = (nI wn) := by rw [hI1]; exact lkI_3.trans l4
  refine mjGo.callR (j := 9) (nx := 44) (o := none) (h' := mjH I1 (nwX X 4)) rfl rfl rfl (Nat.lt_succ_self _) ((by rw [hI1]; exact c_in4 (kd := 0) _ (nwX_K (X := X) (kd := 0) (by omega)))) ?_
  show mjGo _ _ 44 ([some (.ref 0), some (.int (nI i)), some (.ref a), none], [.ref (X.2.2.2.1 + 75), .ref 1, .ref 19], mjH I1 (nwX X 4)) _
  refine mjGo.run 1 (pc' := 45) (F' := ([some (.ref 0), some (.int (nI i)), some (.ref a), none], [.ref a, .ref (X.2.2.2.1 + 75), .ref 1, .ref 19], mjH I1 (nwX X 4))) (fun _ => rfl) ?_
  refine mjGo.op (pc' := 48) (F' := ([some (.ref 0), some (.int (nI i)), some (.ref a), none], [.int (I 50 i), .ref (X.2.2.2.1 + 75), .ref 1, .ref 19], mjH I1 (nwX X 4))) (o := mjgetI [0, 1, 2, 4, 5, 7, 8, 9] 2 48) rfl (fun _ => lkK_get (hlk.le x2) ((e2 a 2 (scr_hi hlk.1) hlk.2.1).trans l2)) ?_
  refine mjGo.run 3 (pc' := 55) (F' := ([some (.ref 0), some (.int (nI i)), some (.ref a), none], [.int (I1 1 8), .int (I 50 i), .ref (X.2.2.2.1 + 75), .ref 1, .ref 19], mjH I1 (nwX X 4))) (fun _ => rfl) ?_
  have o3 := ho.eq e2 (by omega)
  obtain ⟨o9, h9, hev3, rfl, J3, rfl, heJ3, hDJ3, h3J3⟩ := c_xLive _ (X := (nwX X 4)) (I0 := I1) (I := I1) (fg := I 49 i) (dr := I 50 i) (lw := lw) (nwX_K (X := X) (kd := 0) (by omega)) o3 eqO.rf b1 b3 hwn hdr hlw
  rw [(mD_N e2 (by omega)).1] at hDJ3
  have e3 : eqN (X.2.2.2.1 + 75) I J3 := e2.trans (eqN.of heJ3 scz_scr) (Nat.le_refl (X.2.2.2.1 + 75))
  have x3 : xle X (mkX (nwX X 4)) := x2.trans mkX_le
  refine mjGo.call (n := 5) (j := 44) (nx := 58) (o := none) (h' := mjH J3 (mkX (nwX X 4))) (fun _ => rfl) ((by rw [show (I1 1 8) = nI lw from (e2 1 8 rfl (by omega)).trans h18]; exact hev3)) ?_
  show mjGo _ _ 58 ([some (.ref 0), some (.int (nI i)), some (.ref a), none], [], mjH J3 (mkX (nwX X 4))) _
  refine mjGo.run 10 (pc' := 76) (F' := ([some (.ref 0), some (.int (nI i)), some (.ref a), some (.int (J3 19 9))], [.ref a, .ref a, .ref 1, .ref 19], mjH J3 (mkX (nwX X 4)))) (fun _ => rfl) ?_
  refine mjGo.op (pc' := 79) (F' := ([some (.ref 0), some (.int (nI i)), some (.ref a), some (.int (J3 19 9))], [.int (I 50 i), .ref a, .ref 1, .ref 19], mjH J3 (mkX (nwX X 4)))) (o := mjgetI [0, 1, 2, 4, 5, 7, 8, 9] 2 79) rfl (fun _ => lkK_get (hlk.le x3) ((e3 a 2 (scr_hi hlk.1) hlk.2.1).trans l2)) ?_
  refine mjGo.run 3 (pc' := 86) (F' := ([some (.ref 0), some (.int (nI i)), some (.ref a), some (.int (J3 19 9))], [.int (J3 1 8), .int (I 50 i), .ref a, .ref 1, .ref 19], mjH J3 (mkX (nwX X 4)))) (fun _ => rfl) ?_
  have o4 := ho.eq e3 (by omega)
  obtain ⟨o9, h9, hev4, rfl, J4, rfl, heJ4, hDJ4, h3J4⟩ := c_xLive _ (X := (mkX (nwX X 4))) (I0 := J3) (I := J3) (fg := I 49 i) (dr := I 50 i) (lw := lw) (hlk.le x3) o4 eqO.rf ((e3 a 1 (scr_hi hlk.1) hlk.2.1).trans l1) ((e3 a 3 (scr_hi hlk.1) hlk.2.1).trans l3) hwn hdr hlw
  rw [(mD_N e3 (by omega)).1] at hDJ4
  have e4 : eqN (X.2.2.2.1 + 75) I J4 := e3.trans (eqN.of heJ4 scz_scr) (Nat.le_refl (X.2.2.2.1 + 75))
  have x4 : xle X (mkX (mkX (nwX X 4))) := x3.trans mkX_le
  refine mjGo.call (n := 5) (j := 44) (nx := 89) (o := none) (h' := mjH J4 (mkX (mkX (nwX X 4)))) (fun _ => rfl) ((by rw [show (J3 1 8) = nI lw from (e3 1 8 rfl (by omega)).trans h18]; exact hev4)) ?_
  show mjGo _ _ 89 ([some (.ref 0), some (.int (nI i)), some (.ref a), some (.int (J3 19 9))], [], mjH J4 (mkX (mkX (nwX X 4)))) _
  refine mjGo.ret 6 (fun _ => rfl) ⟨_, rfl, J4, (mkX (mkX (nwX X 4))), rfl, e4, x4, grw_new, ?_⟩
  show some (Value.int ((J3 19 9) - (J4 19 9))) = _
  rw [xDS_cost hDJ3, xDS_cost hDJ4]
  rfl
theorem m_pays (d : Nat) {i kd wn np n9 nl lw : Nat} {I : Nat → Nat → Int32} {X : MX} (hb : MB I i kd wn np n9 nl lw) : mjEvP (d + 7) nyX12_pays_ [.ref 43, .int (nI i)] (mjH I X) (fun o h2 => ∃ J, h2 = mjH J X ∧ eqO scd I J ∧ o = some (.int (dyCost (mD I np n9 0 (I 49 i) (I 50 i) wn (nI lw)) - dyCost (mD I np n9 (nI kd) (I 49 i) (I 50 i) wn (nI lw))))) := by
  have ⟨ho, hn, h44, hi, m48, m51, hwn, m443⟩ := hb
  refine mjEvP.of ?_
  show mjGo (d + 7) nyX12_pays_ 0 ([some (.ref 43), some (.int (nI i))], [], mjH I X) _
  refine mjGo.run 2 (pc' := 2) (F' := ([some (.ref 43), some (.int (nI i))], [.int (nI i), .ref 43], mjH I X)) (fun _ => rfl) ?_
  refine mjGo.call (n := 2) (j := 138) (nx := 5) (o := some (.int 1)) (h' := mjH I X) (fun _ => rfl) ((by have q := c_mIsL (d + 5) (nI i) (I := I) (X := X); rw [mIsL, h44, mIn_yes hi (by omega)] at q; exact q)) ?_
  show mjGo _ _ 5 ([some (.ref 43), some (.int (nI i))], [.int 1], mjH I X) _
  refine mjGo.run 6 (pc' := 15) (F' := ([some (.ref 43), some (.int (nI i))], [.int (nI i), .ref 49, .int 0, .ref 43], mjH I X)) (fun _ => rfl) ?_
  refine mjGo.op (pc' := 16) (F' := ([some (.ref 43), some (.int (nI i))], [.int (I 49 i), .int 0, .ref 43], mjH I X)) (o := mjiald 16) rfl (fun _ => mjald_n (n := 6) (by omega) (by decide) (rfl) (rfl)) ?_
  refine mjGo.run 3 (pc' := 21) (F' := ([some (.ref 43), some (.int (nI i))], [.int (nI i), .ref 50, .int (I 49 i), .int 0, .ref 43], mjH I X)) (fun _ => rfl) ?_
  refine mjGo.op (pc' := 22) (F' := ([some (.ref 43), some (.int (nI i))], [.int (I 50 i), .int (I 49 i), .int 0, .ref 43], mjH I X)) (o := mjiald 22) rfl (fun _ => mjald_n (n := 6) (by omega) (by decide) (rfl) (rfl)) ?_
  refine mjGo.run 3 (pc' := 27) (F' := ([some (.ref 43), some (.int (nI i))], [.int (nI i), .ref 51, .int (I 50 i), .int (I 49 i), .int 0, .ref 43], mjH I X)) (fun _ => rfl) ?_
  refine mjGo.op (pc' := 28) (F' := ([some (.ref 43), some (.int (nI i))], [.int (I 51 i), .int (I 50 i), .int (I 49 i), .int 0, .ref 43], mjH I X)) (o := mjiald 28) rfl (fun _ => mjald_n (n := 6) (by omega) (by decide) (rfl) (rfl)) ?_
  refine mjGo.run 4 (pc' := 34) (F' := ([some (.ref 43), some (.int (nI i))], [.int (I 44 3), .int (I 51 i), .int (I 50 i), .int (I 49 i), .int 0, .ref 43], mjH I X)) (fun _ => rfl) ?_
  obtain ⟨o9, h9, hev, J, rfl, heJ, hdJ, rfl⟩ := c_mDay _ (k := 0) (f := I 49 i) (dr := I 50 i) (wn := wn) (law := nI lw) (X := X) ho (eqO.rf (I := I)) hwn
  obtain ⟨hbJ, e49, e50, eD⟩ := hb.eq (n := 75) (eqN.of heJ scd_scr) (by omega)
  refine mjGo.call (n := 6) (j := 151) (nx := 37) (o := some (.int (dyCost (mD I np n9 0 (I 49 i) (I 50 i) wn (nI lw))))) (h' := mjH J X) (fun _ => rfl) ((by rw [m51, m443]; exact hev)) ?_
  show mjGo _ _ 37 ([some (.ref 43), some (.int (nI i))], [.int (dyCost (mD I np n9 0 (I 49 i) (I 50 i) wn (nI lw)))], mjH J X) _
  refine mjGo.run 2 (pc' := 39) (F' := ([some (.ref 43), some (.int (nI i))], [.int (nI i), .ref 43, .int (dyCost (mD I np n9 0 (I 49 i) (I 50 i) wn (nI lw)))], mjH J X)) (fun _ => rfl) ?_
  obtain ⟨o9, h9, hev2, J2, rfl, heJ2, hdJ2, rfl⟩ := c_mDayOf _ (X := X) hbJ
  rw [eD, e49, e50] at hev2
  refine mjGo.call (n := 2) (j := 153) (nx := 42) (o := some (.int (dyCost (mD I np n9 (nI kd) (I 49 i) (I 50 i) wn (nI lw))))) (h' := mjH J2 X) (fun _ => rfl) (hev2) ?_
  show mjGo _ _ 42 ([some (.ref 43), some (.int (nI i))], [.int (dyCost (mD I np n9 (nI kd) (I 49 i) (I 50 i) wn (nI lw))), .int (dyCost (mD I np n9 0 (I 49 i) (I 50 i) wn (nI lw)))], mjH J2 X) _
  refine mjGo.ret 3 (fun _ => rfl) ⟨_, rfl, J2, rfl, heJ.trans heJ2, ?_⟩
  rfl
def xp_paysN (I : Nat → Nat → Int32) (k : Int32) : Int32 := (-1000000001)
theorem c_xp_paysN (d : Nat) {I : Nat → Nat → Int32} {X : MX} (k : Int32) {nl : Nat} (hn : nl ≤ 6) (h16 : I 1 6 = nI nl) (hno : mIn k 0 (nI nl - 1) = 0) : mjEv (d + 7) nyX11_pays [.ref 0, .int k] (mjH I X) (.inl (some (.int (xp_paysN I k)))) (mjH I X) := by
  refine mjEv.of ?_
  show mjGo (d + 7) nyX11_pays 0 ([some (.ref 0), some (.int k), none, none], [], mjH I X) _
  refine mjGo.run 2 (pc' := 2) (F' := ([some (.ref 0), some (.int k), none, none], [.int k, .ref 0], mjH I X)) (fun _ => rfl) ?_
  refine mjGo.call (n := 2) (j := 91) (nx := 5) (o := some (.null)) (h' := mjH I X) (fun _ => rfl) (c_lkNo _ hn h16 hno) ?_
  show mjGo _ _ 5 ([some (.ref 0), some (.int k), none, none], [.null], mjH I X) _
  have e9 : xp_paysN I k = (-1000000001) := by unfold xp_paysN; rfl
  rw [e9]
  exact mjGo.ret 5 (fun _ => rfl) rfl
def mp_paysN (I : Nat → Nat → Int32) (k : Int32) : Int32 := (-1000000001)
theorem c_mp_paysN (d : Nat) {I : Nat → Nat → Int32} {X : MX} (k : Int32) {nl : Nat} (h44 : I 44 1 = nI nl) (hno : mIn k 0 (nI nl - 1) = 0) : mjEv (d + 7) nyX12_pays_ [.ref 43, .int k] (mjH I X) (.inl (some (.int (mp_paysN I k)))) (mjH I X) := by
  refine mjEv.of ?_
  show mjGo (d + 7) nyX12_pays_ 0 ([some (.ref 43), some (.int k)], [], mjH I X) _
  refine mjGo.run 2 (pc' := 2) (F' := ([some (.ref 43), some (.int k)], [.int k, .ref 43], mjH I X)) (fun _ => rfl) ?_
  refine mjGo.call (n := 2) (j := 138) (nx := 5) (o := some (.int 0)) (h' := mjH I X) (fun _ => rfl) ((by have q := c_mIsL (d + 5) k (I := I) (X := X); rw [mIsL, h44, hno] at q; exact q)) ?_
  show mjGo _ _ 5 ([some (.ref 43), some (.int k)], [.int 0], mjH I X) _
  have e9 : mp_paysN I k = (-1000000001) := by unfold mp_paysN; rfl
  rw [e9]
  exact mjGo.ret 3 (fun _ => rfl) rfl
theorem k_pays (d : Nat) (k : Int32) : CALL (d + 12) nyX11_pays nyX12_pays_ [.ref 0, .int k] [.ref 43, .int k] := CALL.scrN fun I X hR hN => by
  obtain ⟨np, n9, nl, lw, ho, ⟨hn, h16, h44⟩, ⟨hlw, h18, h443⟩, hlk⟩ := hR.lk
  by_cases h : mIn k 0 (nI nl - 1) = 0
  · refine ⟨_, ⟨I, X, c_xp_paysN (d + 5) k hn h16 h, eqN.rf, xle.rf, grw.rf⟩, fun J Y hJ e hx => ?_⟩
    have q := c_mp_paysN (d + 5) (I := J) (X := Y) k ((e 44 1 rfl (by omega)).trans h44) h
    exact ⟨J, q, eqN.rf⟩
  · obtain ⟨i, hi, rfl⟩ := mIn_no h (by omega)
    obtain ⟨a, kd, wn, hl⟩ := hlk i hi
    have hb : MB I i kd wn np n9 nl lw := ⟨ho.2.2.2.2.2.2, hn, h44, hi, hl.2.2.2.2.2.2.2.2.1, hl.2.2.2.2.2.2.1, hl.2.2.2.2.2.2.2.1, h443⟩
    obtain ⟨o, h9, hev, J, Y, rfl, hJ, hx, hg, rfl⟩ := x_pays (d + 5) ho hn h16 hi hl hlw h18 hN
    refine ⟨_, ⟨J, Y, hev, hJ, hx, hg⟩, fun J Y hRJ e hx => ?_⟩
    obtain ⟨hb2, e49, e50, eD⟩ := hb.eq e (by omega)
    have eB := (mD_N e (by omega)).2.1
    have eS := (mD_N e (by omega)).2.2
    have e45 : J 45 = I 45 := e.row (fun _ => rfl) (by omega)
    obtain ⟨o, h9, hev, L, rfl, hL, rfl⟩ := m_pays (d + 5) (X := Y) hb2
    simp only [e49, e50, eD, eB, eS, e45] at hev
    exact ⟨L, hev, eqN.of hL scd_scr⟩
