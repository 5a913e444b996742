/-! edge -/
theorem x_edge (d : Nat) (w : Int32) {np n9 nl lw i a kd wn : Nat} {I : Nat → Nat → Int32} {X : MX} (ho : xOk I np n9) (hn : nl ≤ 6) (h16 : I 1 6 = nI nl) (hi : i < nl) (hl : lkR I X 1 44 i a kd wn) (hlw : lw < 3) (h18 : I 1 8 = nI lw) (hN : X.2.2.2.1 ≤ 800000) : mjEvP (d + 7) nyX11_edge [.ref 0, .int (nI i), .int w] (mjH I X) (fun o h2 => ∃ J Y, h2 = mjH J Y ∧ eqN (X.2.2.2.1 + 75) I J ∧ xle X Y ∧ grw X Y ∧ o = some (.int (if mIn w 0 (nI n9 - 1) = 0 then -1 else edV (fun j => mS I np n9 2 (nI j) (I 50 i) wn (nI lw)) (I 45 w.toNatClampNeg) w.toNatClampNeg 10 0))) := by
  obtain ⟨hP, hlk, l0, l1, l2, l3, l4, hwn, l5, hdr⟩ := hl
  have e0 : eqN (X.2.2.2.1 + 75) I I := eqN.rf
  have x0 : xle X X := xle.rf
  have h5 : n9 ≤ 5 := ho.2.2.2.2.2.2.2.2.2.1
  have h15 := ho.2.1
  have hq : xHas (I 1 5) w = mIn w 0 (nI n9 - 1) := by rw [h15, has_eq h5]
  by_cases h : mIn w 0 (nI n9 - 1) = 0
  · rw [if_pos h]
    refine mjEvP.of ?_
    show mjGo (d + 7) nyX11_edge 0 ([some (.ref 0), some (.int (nI i)), some (.int w), none, none, none], [], mjH I X) _
    refine mjGo.run 2 (pc' := 2) (F' := ([some (.ref 0), some (.int (nI i)), some (.int w), none, none, none], [.int (nI i), .ref 0], mjH I X)) (fun _ => rfl) ?_
    refine mjGo.call (n := 2) (j := 91) (nx := 5) (o := some (.ref a)) (h' := mjH I X) (fun _ => rfl) (c_lkYes _ hn h16 hi hP) ?_
    show mjGo _ _ 5 ([some (.ref 0), some (.int (nI i)), some (.int w), none, none, none], [.ref a], mjH I X) _
    refine mjGo.run 6 (pc' := 15) (F' := ([some (.ref 0), some (.int (nI i)), some (.int w), some (.ref a), none, none], [.int w, .ref 1], mjH I X)) (fun _ => rfl) ?_
    refine mjGo.call (n := 2) (j := 41) (nx := 18) (o := some (.int 0)) (h' := mjH I X) (fun _ => rfl) ((by have q := c_xHas (d + 6) w (I := I) (X := X); rw [hq, h] at q; exact q)) ?_
    show mjGo _ _ 18 ([some (.ref 0), some (.int (nI i)), some (.int w), some (.ref a), none, none], [.int 0], mjH I X) _
    exact mjGo.ret 3 (fun _ => rfl) ⟨_, rfl, I, X, rfl, e0, x0, grw.rf, rfl⟩
  · rw [if_neg h]
    obtain ⟨w9, hw9, rfl⟩ := mIn_no h (by omega)
    rw [nI_clamp (by omega)]
    refine mjEvP.of ?_
    show mjGo (d + 7) nyX11_edge 0 ([some (.ref 0), some (.int (nI i)), some (.int (nI w9)), none, none, none], [], mjH I X) _
    refine mjGo.run 2 (pc' := 2) (F' := ([some (.ref 0), some (.int (nI i)), some (.int (nI w9)), none, none, none], [.int (nI i), .ref 0], mjH I X)) (fun _ => rfl) ?_
    refine mjGo.call (n := 2) (j := 91) (nx := 5) (o := some (.ref a)) (h' := mjH I X) (fun _ => rfl) (c_lkYes _ hn h16 hi hP) ?_
    show mjGo _ _ 5 ([some (.ref 0), some (.int (nI i)), some (.int (nI w9)), none, none, none], [.ref a], mjH I X) _
    refine mjGo.run 6 (pc' := 15) (F' := ([some (.ref 0), some (.int (nI i)), some (.int (nI w9)), some (.ref a), none, none], [.int (nI w9), .ref 1], mjH I X)) (fun _ => rfl) ?_
    refine mjGo.call (n := 2) (j := 41) (nx := 18) (o := some (.int 1)) (h' := mjH I X) (fun _ => rfl) ((by have q := c_xHas (d + 6) (nI w9) (I := I) (X := X); rw [h15, xHas_1 hw9 h5] at q; exact q)) ?_
    show mjGo _ _ 18 ([some (.ref 0), some (.int (nI i)), some (.int (nI w9)), some (.ref a), none, none], [.int 1], mjH I X) _
    refine mjGo.run 1 (pc' := 23) (F' := ([some (.ref 0), some (.int (nI i)), some (.int (nI w9)), some (.ref a), none, none], [], mjH I X)) (fun _ => rfl) ?_
    have e1 : eqN (X.2.2.2.1 + 75) I (nwI I X) := nwI_eq0
    have x1 : xle X (nwX X 2) := nwX_le
    refine mjGo.op (pc' := 26) (F' := ([some (.ref 0), some (.int (nI i)), some (.int (nI w9)), some (.ref a), none, none], [.ref (X.2.2.2.1 + 75)], mjH (nwI I X) (nwX X 2))) (o := mjnew 2 4 26) rfl (fun _ => new_op (by omega)) ?_
    refine mjGo.run 2 (pc' := 28) (F' := ([some (.ref 0), some (.int (nI i)), some (.int (nI w9)), some (.ref a), none, none], [.ref a, .ref (X.2.2.2.1 + 75), .ref (X.2.2.2.1 + 75)], mjH (nwI I X) (nwX X 2))) (fun _ => rfl) ?_
    refine mjGo.op (pc' := 31) (F' := ([some (.ref 0), some (.int (nI i)), some (.int (nI w9)), some (.ref a), none, none], [.int (nI i), .ref (X.2.2.2.1 + 75), .ref (X.2.2.2.1 + 75)], mjH (nwI I X) (nwX X 2))) (o := mjgetI [0, 1, 2, 4, 5, 7, 8, 9] 0 31) rfl (fun _ => lkK_get (hlk.le x1) ((e1 a 0 (scr_hi hlk.1) hlk.2.1).trans l0)) ?_
    refine mjGo.run 1 (pc' := 32) (F' := ([some (.ref 0), some (.int (nI i)), some (.int (nI w9)), some (.ref a), none, none], [.ref a, .int (nI i), .ref (X.2.2.2.1 + 75), .ref (X.2.2.2.1 + 75)], mjH (nwI I X) (nwX X 2))) (fun _ => rfl) ?_
    refine mjGo.op (pc' := 35) (F' := ([some (.ref 0), some (.int (nI i)), some (.int (nI w9)), some (.ref a), none, none], [.int (I 49 i), .int (nI i), .ref (X.2.2.2.1 + 75), .ref (X.2.2.2.1 + 75)], mjH (nwI I X) (nwX X 2))) (o := mjgetI [0, 1, 2, 4, 5, 7, 8, 9] 1 35) rfl (fun _ => lkK_get (hlk.le x1) ((e1 a 1 (scr_hi hlk.1) hlk.2.1).trans l1)) ?_
    refine mjGo.run 1 (pc' := 36) (F' := ([some (.ref 0), some (.int (nI i)), some (.int (nI w9)), some (.ref a), none, none], [.ref a, .int (I 49 i), .int (nI i), .ref (X.2.2.2.1 + 75), .ref (X.2.2.2.1 + 75)], mjH (nwI I X) (nwX X 2))) (fun _ => rfl) ?_
    refine mjGo.op (pc' := 39) (F' := ([some (.ref 0), some (.int (nI i)), some (.int (nI w9)), some (.ref a), none, none], [.int (I 50 i), .int (I 49 i), .int (nI i), .ref (X.2.2.2.1 + 75), .ref (X.2.2.2.1 + 75)], mjH (nwI I X) (nwX X 2))) (o := mjgetI [0, 1, 2, 4, 5, 7, 8, 9] 2 39) rfl (fun _ => lkK_get (hlk.le x1) ((e1 a 2 (scr_hi hlk.1) hlk.2.1).trans l2)) ?_
    refine mjGo.run 1 (pc' := 40) (F' := ([some (.ref 0), some (.int (nI i)), some (.int (nI w9)), some (.ref a), none, none], [.ref a, .int (I 50 i), .int (I 49 i), .int (nI i), .ref (X.2.2.2.1 + 75), .ref (X.2.2.2.1 + 75)], mjH (nwI I X) (nwX X 2))) (fun _ => rfl) ?_
    refine mjGo.op (pc' := 43) (F' := ([some (.ref 0), some (.int (nI i)), some (.int (nI w9)), some (.ref a), none, none], [.int (I 51 i), .int (I 50 i), .int (I 49 i), .int (nI i), .ref (X.2.2.2.1 + 75), .ref (X.2.2.2.1 + 75)], mjH (nwI I X) (nwX X 2))) (o := mjgetI [0, 1, 2, 4, 5, 7, 8, 9] 3 43) rfl (fun _ => lkK_get (hlk.le x1) ((e1 a 3 (scr_hi hlk.1) hlk.2.1).trans (l3.trans l4.symm))) ?_
    have x2 : xle X (nwX X 2) := nwX_le
    obtain ⟨I1, hI1⟩ : ∃ I1, I1 = (lkI (nwI I X) (X.2.2.2.1 + 75) (nI i) (I 49 i) (I 50 i) (I 51 i)) := ⟨_, rfl⟩
    have e2 : eqN (X.2.2.2.1 + 75) I I1 := by rw [hI1]; exact nwI_eq
    have b0 : I1 (X.2.2.2.1 + 75) 0 = (nI i) := by rw [hI1]; exact lkI_0
    have b1 : I1 (X.2.2.2.1 + 75) 1 = (I 49 i) := by rw [hI1]; exact lkI_1
    have b2 : I1 (X.2.2.2.1 + 75) 2 = (I 50 i) := by rw [hI1]; exact lkI_2
    have b3 : I1 (X.2.2.2.1 + 75) 3 = (nI wn) := by rw [hI1]; exact lkI_3.trans l4
    refine mjGo.callR (j := 10) (nx := 46) (o := none) (h' := mjH I1 (nwX X 2)) rfl rfl rfl (Nat.lt_succ_self _) ((by rw [hI1]; exact c_in2 (kd := 2) _ (nwX_K (X := X) (kd := 2) (by omega)))) ?_
    show mjGo _ _ 46 ([some (.ref 0), some (.int (nI i)), some (.int (nI w9)), some (.ref a), none, none], [.ref (X.2.2.2.1 + 75)], mjH I1 (nwX X 2)) _
    refine mjGo.run 3 (pc' := 51) (F' := ([some (.ref 0), some (.int (nI i)), some (.int (nI w9)), some (.ref a), some (.ref (X.2.2.2.1 + 75)), some (.int 0)], [], mjH I1 (nwX X 2))) (fun _ => rfl) ?_
    obtain ⟨n, x, hx, J, Y, rfl, hJ, hY⟩ := x_ed_loop (d := d + 1) (i := i) (ho.eq e2 (by omega)) (nwX_K (X := X) (kd := 2) (by omega)) (hlk.le x2) b3 ((e2 a 2 (scr_hi hlk.1) hlk.2.1).trans l2) ((e2 1 8 rfl (by omega)).trans h18) hwn hdr hlw hw9 h5 10 0 I1 (nwX X 2) (by omega) eqO.rf (Or.inl rfl)
    rw [(mD_N e2 (by omega)).2.2, show I1 2 = I 45 from (e2.row (fun _ => rfl) (by omega)).trans ho.2.2.1] at hx
    refine ⟨n, _, hx, _, rfl, J, Y, rfl, e2.trans (eqN.of hJ scz_scr) (Nat.le_refl _), x2.trans (xle_of hY), ?_, ?_⟩
    · rcases hY with rfl | rfl
      · exact grw_new
      · exact grw_new
    · rfl
theorem m_edge (d : Nat) (w : Int32) {i kd wn np n9 nl lw : Nat} {I : Nat → Nat → Int32} {X : MX} (hb : MB I i kd wn np n9 nl lw) : mjEvP (d + 7) nyX12_edge [.ref 43, .int (nI i), .int w] (mjH I X) (fun o h2 => ∃ J, h2 = mjH J X ∧ eqO scd I J ∧ o = some (.int (if mIn w 0 (nI n9 - 1) = 0 then -1 else edV (fun j => mS I np n9 2 (nI j) (I 50 i) wn (nI lw)) (I 45 w.toNatClampNeg) w.toNatClampNeg 10 0))) := by
  have ⟨ho, hn, h44, hi, m48, m51, hwn, m443⟩ := hb
  have hn9 : I 44 0 = nI n9 := ho.2.2.1
  have h5 : n9 ≤ 5 := ho.2.2.2.1
  by_cases h : mIn w 0 (nI n9 - 1) = 0
  · rw [if_pos h]
    refine mjEvP.of ?_
    show mjGo (d + 7) nyX12_edge 0 ([some (.ref 43), some (.int (nI i)), some (.int w), none], [], mjH I X) _
    refine mjGo.run 2 (pc' := 2) (F' := ([some (.ref 43), some (.int (nI i)), some (.int w), none], [.int (nI i), .ref 43], mjH I X)) (fun _ => rfl) ?_
    refine mjGo.call (n := 2) (j := 138) (nx := 5) (o := some (.int 1)) (h' := mjH I X) (fun _ => rfl) ((by have q := c_mIsL (d + 5) (nI i) (I := I) (X := X); rw [mIsL, h44, mIn_yes hi (by omega)] at q; exact q)) ?_
    show mjGo _ _ 5 ([some (.ref 43), some (.int (nI i)), some (.int w), none], [.int 1], mjH I X) _
    refine mjGo.run 3 (pc' := 10) (F' := ([some (.ref 43), some (.int (nI i)), some (.int w), none], [.int w, .ref 43], mjH I X)) (fun _ => rfl) ?_
    refine mjGo.call (n := 2) (j := 137) (nx := 13) (o := some (.int 0)) (h' := mjH I X) (fun _ => rfl) ((by have q := c_mIsW (d + 5) w (I := I) (X := X); rw [mIsW, hn9, h] at q; exact q)) ?_
    show mjGo _ _ 13 ([some (.ref 43), some (.int (nI i)), some (.int w), none], [.int 0], mjH I X) _
    exact mjGo.ret 3 (fun _ => rfl) ⟨_, rfl, I, rfl, eqO.rf, rfl⟩
  · rw [if_neg h]
    obtain ⟨w9, hw9, rfl⟩ := mIn_no h (by omega)
    rw [nI_clamp (by omega)]
    refine mjEvP.of ?_
    show mjGo (d + 7) nyX12_edge 0 ([some (.ref 43), some (.int (nI i)), some (.int (nI w9)), none], [], mjH I X) _
    refine mjGo.run 2 (pc' := 2) (F' := ([some (.ref 43), some (.int (nI i)), some (.int (nI w9)), none], [.int (nI i), .ref 43], mjH I X)) (fun _ => rfl) ?_
    refine mjGo.call (n := 2) (j := 138) (nx := 5) (o := some (.int 1)) (h' := mjH I X) (fun _ => rfl) ((by have q := c_mIsL (d + 5) (nI i) (I := I) (X := X); rw [mIsL, h44, mIn_yes hi (by omega)] at q; exact q)) ?_
    show mjGo _ _ 5 ([some (.ref 43), some (.int (nI i)), some (.int (nI w9)), none], [.int 1], mjH I X) _
    refine mjGo.run 3 (pc' := 10) (F' := ([some (.ref 43), some (.int (nI i)), some (.int (nI w9)), none], [.int (nI w9), .ref 43], mjH I X)) (fun _ => rfl) ?_
    refine mjGo.call (n := 2) (j := 137) (nx := 13) (o := some (.int 1)) (h' := mjH I X) (fun _ => rfl) ((by have q := c_mIsW (d + 5) (nI w9) (I := I) (X := X); rw [mIsW, hn9, mIn_yes hw9 (by omega)] at q; exact q)) ?_
    show mjGo _ _ 13 ([some (.ref 43), some (.int (nI i)), some (.int (nI w9)), none], [.int 1], mjH I X) _
    refine mjGo.run 3 (pc' := 20) (F' := ([some (.ref 43), some (.int (nI i)), some (.int (nI w9)), some (.int 0)], [], mjH I X)) (fun _ => rfl) ?_
    obtain ⟨n, x, hx, J, rfl, hJ⟩ := m_ed_loop (d := d + 3) (X := X) hb hw9 h5 10 0 I (by omega) eqO.rf
    exact ⟨n, _, hx, _, rfl, J, rfl, hJ, rfl⟩
def xp_edgeN (I : Nat → Nat → Int32) (k w : Int32) : Int32 := (-1)
theorem c_xp_edgeN (d : Nat) {I : Nat → Nat → Int32} {X : MX} (k w : Int32) {nl : Nat} (hn : nl ≤ 6) (h16 : I 1 6 = nI nl) (hno : mIn k 0 (nI nl - 1) = 0) : mjEv (d + 7) nyX11_edge [.ref 0, .int k, .int w] (mjH I X) (.inl (some (.int (xp_edgeN I k w)))) (mjH I X) := by
  refine mjEv.of ?_
  show mjGo (d + 7) nyX11_edge 0 ([some (.ref 0), some (.int k), some (.int w), none, none, none], [], mjH I X) _
  refine mjGo.run 2 (pc' := 2) (F' := ([some (.ref 0), some (.int k), some (.int w), none, none, none], [.int k, .ref 0], mjH I X)) (fun _ => rfl) ?_
  refine mjGo.call (n := 2) (j := 91) (nx := 5) (o := some (.null)) (h' := mjH I X) (fun _ => rfl) (c_lkNo _ hn h16 hno) ?_
  show mjGo _ _ 5 ([some (.ref 0), some (.int k), some (.int w), none, none, none], [.null], mjH I X) _
  have e9 : xp_edgeN I k w = (-1) := by unfold xp_edgeN; rfl
  rw [e9]
  exact mjGo.ret 5 (fun _ => rfl) rfl
def mp_edgeN (I : Nat → Nat → Int32) (k w : Int32) : Int32 := (-1)
theorem c_mp_edgeN (d : Nat) {I : Nat → Nat → Int32} {X : MX} (k w : Int32) {nl : Nat} (h44 : I 44 1 = nI nl) (hno : mIn k 0 (nI nl - 1) = 0) : mjEv (d + 7) nyX12_edge [.ref 43, .int k, .int w] (mjH I X) (.inl (some (.int (mp_edgeN I k w)))) (mjH I X) := by
  refine mjEv.of ?_
  show mjGo (d + 7) nyX12_edge 0 ([some (.ref 43), some (.int k), some (.int w), none], [], mjH I X) _
  refine mjGo.run 2 (pc' := 2) (F' := ([some (.ref 43), some (.int k), some (.int w), none], [.int k, .ref 43], mjH I X)) (fun _ => rfl) ?_
  refine mjGo.call (n := 2) (j := 138) (nx := 5) (o := some (.int 0)) (h' := mjH I X) (fun _ => rfl) ((by have q := c_mIsL (d + 5) k (I := I) (X := X); rw [mIsL, h44, hno] at q; exact q)) ?_
  show mjGo _ _ 5 ([some (.ref 43), some (.int k), some (.int w), none], [.int 0], mjH I X) _
  have e9 : mp_edgeN I k w = (-1) := by unfold mp_edgeN; rfl
  rw [e9]
  exact mjGo.ret 3 (fun _ => rfl) rfl
theorem k_edge (d : Nat) (k w : Int32) : CALL (d + 12) nyX11_edge nyX12_edge [.ref 0, .int k, .int w] [.ref 43, .int k, .int w] := CALL.scrN fun I X hR hN => by
  obtain ⟨np, n9, nl, lw, ho, ⟨hn, h16, h44⟩, ⟨hlw, h18, h443⟩, hlk⟩ := hR.lk
  by_cases h : mIn k 0 (nI nl - 1) = 0
  · refine ⟨_, ⟨I, X, c_xp_edgeN (d + 5) k w hn h16 h, eqN.rf, xle.rf, grw.rf⟩, fun J Y hJ e hx => ?_⟩
    have q := c_mp_edgeN (d + 5) (I := J) (X := Y) k w ((e 44 1 rfl (by omega)).trans h44) h
    exact ⟨J, q, eqN.rf⟩
  · obtain ⟨i, hi, rfl⟩ := mIn_no h (by omega)
    obtain ⟨a, kd, wn, hl⟩ := hlk i hi
    have hb : MB I i kd wn np n9 nl lw := ⟨ho.2.2.2.2.2.2, hn, h44, hi, hl.2.2.2.2.2.2.2.2.1, hl.2.2.2.2.2.2.1, hl.2.2.2.2.2.2.2.1, h443⟩
    obtain ⟨o, h9, hev, J, Y, rfl, hJ, hx, hg, rfl⟩ := x_edge (d + 5) w ho hn h16 hi hl hlw h18 hN
    refine ⟨_, ⟨J, Y, hev, hJ, hx, hg⟩, fun J Y hRJ e hx => ?_⟩
    obtain ⟨hb2, e49, e50, eD⟩ := hb.eq e (by omega)
    have eB := (mD_N e (by omega)).2.1
    have eS := (mD_N e (by omega)).2.2
    have e45 : J 45 = I 45 := e.row (fun _ => rfl) (by omega)
    obtain ⟨o, h9, hev, L, rfl, hL, rfl⟩ := m_edge (d + 5) w (X := Y) hb2
    simp only [e49, e50, eD, eB, eS, e45] at hev
    exact ⟨L, hev, eqN.of hL scd_scr⟩
