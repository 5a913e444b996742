/-! calls on days: look, comes, byLaw -/
theorem mjin_lt {q : Int32} {len N : Nat} (h0 : 0 ≤ q) (h1 : ¬ nI len ≤ q) (hl : len ≤ N) (hN : N < 2 ^ 31) : mjin q N = true := by
  obtain ⟨j, hj, rfl⟩ := nI_of (Int32.not_lt.mpr h0)
  rw [nI_leI (by omega) hj] at h1
  exact mjin_n (by omega) hN
def xLookN (I : Nat → Nat → Int32) (q : Int32) : Int32 := if q < 0 then (-4) else (if 13 ≤ q then (-4) else (if (I 19 8) ≤ q then (-4) else (I 20 (q).toNatClampNeg)))
theorem c_xLookN (d : Nat) {I : Nat → Nat → Int32} {X : MX} (q : Int32) : mjEv d nyX3_lookNumbered [.ref 19, .int q] (mjH I X) (.inl (some (.int (xLookN I q)))) (mjH I X) := by
  refine mjEv.of ?_
  show mjGo d nyX3_lookNumbered 0 ([some (.ref 19), some (.int q)], [], mjH I X) _
  refine mjGo.run 2 (pc' := (bif decide (q < 0) then 27 else 4)) (F' := ([some (.ref 19), some (.int q)], [], mjH I X)) (fun _ => rfl) ?_
  refine mjGo.br (fun q1 => ?_) (fun q1 => ?_)
  · show mjGo _ _ 27 _ _
    have e9 : xLookN I q = (-4) := by unfold xLookN; rw [if_pos q1]
    rw [e9]
    exact mjGo.ret 2 (fun _ => rfl) rfl
  · show mjGo _ _ 4 _ _
    refine mjGo.run 3 (pc' := (bif decide (13 ≤ q) then 27 else 10)) (F' := ([some (.ref 19), some (.int q)], [], mjH I X)) (fun _ => rfl) ?_
    refine mjGo.br (fun q2 => ?_) (fun q2 => ?_)
    · show mjGo _ _ 27 _ _
      have e9 : xLookN I q = (-4) := by unfold xLookN; rw [if_neg q1, if_pos q2]
      rw [e9]
      exact mjGo.ret 2 (fun _ => rfl) rfl
    · show mjGo _ _ 10 _ _
      refine mjGo.run 4 (pc' := (bif decide ((I 19 8) ≤ q) then 27 else 18)) (F' := ([some (.ref 19), some (.int q)], [], mjH I X)) (fun _ => rfl) ?_
      refine mjGo.br (fun q3 => ?_) (fun q3 => ?_)
      · show mjGo _ _ 27 _ _
        have e9 : xLookN I q = (-4) := by unfold xLookN; rw [if_neg q1, if_neg q2, if_pos q3]
        rw [e9]
        exact mjGo.ret 2 (fun _ => rfl) rfl
      · show mjGo _ _ 18 _ _
        refine mjGo.run 3 (pc' := 23) (F' := ([some (.ref 19), some (.int q)], [.int q, .ref 20], mjH I X)) (fun _ => rfl) ?_
        refine mjGo.op (pc' := 24) (F' := ([some (.ref 19), some (.int q)], [.int (I 20 (q).toNatClampNeg)], mjH I X)) (o := mjiald 24) rfl (fun _ => mjald_i (n := 13) (by obtain ⟨j, hj, rfl⟩ := nI_of q1; rw [show (13 : Int32) = nI 13 from rfl, nI_leI (by omega) hj] at q2; exact mjin_n (by omega) (by omega)) (rfl) (rfl)) ?_
        have e9 : xLookN I q = (I 20 (q).toNatClampNeg) := by unfold xLookN; rw [if_neg q1, if_neg q2, if_neg q3]
        rw [e9]
        exact mjGo.ret 2 (fun _ => rfl) rfl
def lookV (s : dyT) (q : Int32) : Int32 := if q < 0 then -1 else if nI s.2.2.1.2.length ≤ q then -4 else nI (s.2.2.1.2.getD q.toNatClampNeg 0)
theorem look_eq {J : Nat → Nat → Int32} {s : dyT} {n : Nat} {q : Int32} (h0 : 0 ≤ q) (hD : xDS J s n) (hl : s.2.2.1.2.length ≤ 13) : xLookN J q = lookV s q := by
  obtain ⟨j, hj, rfl⟩ := nI_of (Int32.not_lt.mpr h0)
  obtain ⟨⟨_, _, _, h4, h5⟩, _⟩ := hD
  unfold xLookN lookV
  rw [if_neg (nI_pos hj), if_neg (nI_pos hj), h4, nI_clamp hj, show (13 : Int32) = nI 13 from rfl]
  by_cases h : s.2.2.1.2.length ≤ j
  · have hc : nI s.2.2.1.2.length ≤ nI j := (nI_leI (by omega) hj).mpr h
    rw [if_pos hc, if_pos hc]
    split <;> rfl
  · have hc : ¬ nI s.2.2.1.2.length ≤ nI j := by rw [nI_leI (by omega) hj]; exact h
    rw [if_neg (show ¬ nI 13 ≤ nI j by rw [nI_leI (by omega) hj]; omega), if_neg hc, if_neg hc]
    exact h5 j (by omega)
theorem x_look (d : Nat) (q : Int32) {np n9 nl lw i a kd wn : Nat} {I : Nat → Nat → Int32} {X : MX} (ho : xOk I np n9) (hn : nl ≤ 6) (h16 : I 1 6 = nI nl) (hi : i < nl) (hl : lkR I X 1 44 i a kd wn) (hlw : lw < 3) (h18 : I 1 8 = nI lw) : mjEvP (d + 6) nyX11_look [.ref 0, .int (nI i), .int q] (mjH I X) (fun o h2 => ∃ J Y, h2 = mjH J Y ∧ eqO scz I J ∧ (Y = X ∨ Y = mkX X) ∧ o = some (.int (lookV (mD I np n9 (nI kd) (I 49 i) (I 50 i) wn (nI lw)) q))) := by
  obtain ⟨hP, hlk, l0, l1, l2, l3, l4, hwn, l5, hdr⟩ := hl
  refine mjEvP.of ?_
  show mjGo (d + 6) nyX11_look 0 ([some (.ref 0), some (.int (nI i)), some (.int q), none], [], mjH I X) _
  refine mjGo.run 2 (pc' := 2) (F' := ([some (.ref 0), some (.int (nI i)), some (.int q), none], [.int (nI i), .ref 0], mjH I X)) (fun _ => rfl) ?_
  refine mjGo.call (n := 2) (j := 91) (nx := 5) (o := some (.ref a)) (h' := mjH I X) (fun _ => rfl) (c_lkYes _ hn h16 hi hP) ?_
  show mjGo _ _ 5 ([some (.ref 0), some (.int (nI i)), some (.int q), none], [.ref a], mjH I X) _
  refine mjGo.run 5 (pc' := (bif decide (0 ≤ q) then 16 else 14)) (F' := ([some (.ref 0), some (.int (nI i)), some (.int q), some (.ref a)], [], mjH I X)) (fun _ => rfl) ?_
  refine mjGo.br (fun q1 => ?_) (fun q1 => ?_)
  · show mjGo _ _ 16 _ _
    refine mjGo.run 6 (pc' := 26) (F' := ([some (.ref 0), some (.int (nI i)), some (.int q), some (.ref a)], [.ref a, .ref a, .ref 1, .ref 19], mjH I X)) (fun _ => rfl) ?_
    refine mjGo.op (pc' := 29) (F' := ([some (.ref 0), some (.int (nI i)), some (.int q), some (.ref a)], [.int (I 50 i), .ref a, .ref 1, .ref 19], mjH I X)) (o := mjgetI [0, 1, 2, 4, 5, 7, 8, 9] 2 29) rfl (fun _ => lkK_get hlk l2) ?_
    refine mjGo.run 3 (pc' := 36) (F' := ([some (.ref 0), some (.int (nI i)), some (.int q), some (.ref a)], [.int (I 1 8), .int (I 50 i), .ref a, .ref 1, .ref 19], mjH I X)) (fun _ => rfl) ?_
    obtain ⟨o9, h9, hev, rfl, J, rfl, heJ, hDJ, h3J⟩ := c_xLive _ (X := X) (I0 := I) (I := I) (fg := I 49 i) (dr := (I 50 i)) (lw := lw) hlk ho eqO.rf l1 l3 hwn hdr hlw
    refine mjGo.call (n := 5) (j := 44) (nx := 39) (o := none) (h' := mjH J (mkX X)) (fun _ => rfl) ((by rw [h18]; exact hev)) ?_
    show mjGo _ _ 39 ([some (.ref 0), some (.int (nI i)), some (.int q), some (.ref a)], [], mjH J (mkX X)) _
    refine mjGo.run 3 (pc' := 44) (F' := ([some (.ref 0), some (.int (nI i)), some (.int q), some (.ref a)], [.int q, .ref 19], mjH J (mkX X))) (fun _ => rfl) ?_
    refine mjGo.call (n := 2) (j := 45) (nx := 47) (o := some (.int (xLookN J q))) (h' := mjH J (mkX X)) (fun _ => rfl) (c_xLookN (d + 5) q) ?_
    show mjGo _ _ 47 ([some (.ref 0), some (.int (nI i)), some (.int q), some (.ref a)], [.int (xLookN J q)], mjH J (mkX X)) _
    refine mjGo.ret 1 (fun _ => rfl) ⟨_, rfl, J, mkX X, rfl, heJ, Or.inr rfl, ?_⟩
    exact congrArg (fun x => some (Value.int x)) (look_eq q1 hDJ (mD_len ho.2.2.2.2.2.2 hwn))
  · show mjGo _ _ 14 _ _
    refine mjGo.ret 2 (fun _ => rfl) ⟨_, rfl, I, X, rfl, eqO.rf, Or.inl rfl, ?_⟩
    unfold lookV
    rw [if_pos (Int32.not_le.mp q1)]
theorem m_look (d : Nat) (q : Int32) {i kd wn np n9 nl lw : Nat} {I : Nat → Nat → Int32} {X : MX} (hb : MB I i kd wn np n9 nl lw) : mjEvP (d + 6) nyX12_look [.ref 43, .int (nI i), .int q] (mjH I X) (fun o h2 => ∃ J, h2 = mjH J X ∧ eqO scd I J ∧ o = some (.int (lookV (mD I np n9 (nI kd) (I 49 i) (I 50 i) wn (nI lw)) q))) := by
  have ⟨ho, hn, h44, hi, m48, m51, hwn, m443⟩ := hb
  refine mjEvP.of ?_
  show mjGo (d + 6) nyX12_look 0 ([some (.ref 43), some (.int (nI i)), some (.int q)], [], mjH I X) _
  refine mjGo.run 2 (pc' := 2) (F' := ([some (.ref 43), some (.int (nI i)), some (.int q)], [.int (nI i), .ref 43], mjH I X)) (fun _ => rfl) ?_
  refine mjGo.call (n := 2) (j := 138) (nx := 5) (o := some (.int 1)) (h' := mjH I X) (fun _ => rfl) ((by have q := c_mIsL (d + 4) (nI i) (I := I) (X := X); rw [mIsL, h44, mIn_yes hi (by omega)] at q; exact q)) ?_
  show mjGo _ _ 5 ([some (.ref 43), some (.int (nI i)), some (.int q)], [.int 1], mjH I X) _
  refine mjGo.run 3 (pc' := (bif decide (0 ≤ q) then 14 else 12)) (F' := ([some (.ref 43), some (.int (nI i)), some (.int q)], [], mjH I X)) (fun _ => rfl) ?_
  refine mjGo.br (fun q1 => ?_) (fun q1 => ?_)
  · show mjGo _ _ 14 _ _
    refine mjGo.run 2 (pc' := 16) (F' := ([some (.ref 43), some (.int (nI i)), some (.int q)], [.int (nI i), .ref 43], mjH I X)) (fun _ => rfl) ?_
    obtain ⟨o9, h9, hev, J, rfl, heJ, hdJ, rfl⟩ := c_mDayOf _ (X := X) hb
    refine mjGo.call (n := 2) (j := 153) (nx := 19) (o := some (.int (dyCost (mD I np n9 (nI kd) (I 49 i) (I 50 i) wn (nI lw))))) (h' := mjH J X) (fun _ => rfl) (hev) ?_
    show mjGo _ _ 19 ([some (.ref 43), some (.int (nI i)), some (.int q)], [.int (dyCost (mD I np n9 (nI kd) (I 49 i) (I 50 i) wn (nI lw)))], mjH J X) _
    refine mjGo.run 5 (pc' := (bif decide ((J 43 20) ≤ q) then 37 else 28)) (F' := ([some (.ref 43), some (.int (nI i)), some (.int q)], [], mjH J X)) (fun _ => rfl) ?_
    refine mjGo.br (fun q2 => ?_) (fun q2 => ?_)
    · show mjGo _ _ 37 _ _
      refine mjGo.ret 2 (fun _ => rfl) ⟨_, rfl, J, rfl, heJ, ?_⟩
      rw [hdJ.1.2.1] at q2
      unfold lookV
      rw [if_neg (Int32.not_lt.mpr q1), if_pos q2]
    · show mjGo _ _ 28 _ _
      refine mjGo.run 3 (pc' := 33) (F' := ([some (.ref 43), some (.int (nI i)), some (.int q)], [.int q, .ref 62], mjH J X)) (fun _ => rfl) ?_
      refine mjGo.op (pc' := 34) (F' := ([some (.ref 43), some (.int (nI i)), some (.int q)], [.int (J 62 (q).toNatClampNeg)], mjH J X)) (o := mjiald 34) rfl (fun _ => mjald_i (n := 16) (by rw [hdJ.1.2.1] at q2; exact mjin_lt q1 q2 (Nat.le_trans (mD_len ho hwn) (by omega)) (by omega)) (rfl) (rfl)) ?_
      refine mjGo.ret 2 (fun _ => rfl) ⟨_, rfl, J, rfl, heJ, ?_⟩
      rw [hdJ.1.2.1] at q2
      unfold lookV
      rw [if_neg (Int32.not_lt.mpr q1), if_neg q2]
      refine congrArg (fun x => some (Value.int x)) (hdJ.1.2.2 _ ?_)
      obtain ⟨j, hj, rfl⟩ := nI_of (Int32.not_lt.mpr q1)
      have hlen := mD_len (k := nI kd) (f := I 49 i) (dr := I 50 i) (law := nI lw) ho hwn
      rw [nI_leI (by omega) hj] at q2
      rw [nI_clamp hj]
      omega
  · show mjGo _ _ 12 _ _
    refine mjGo.ret 2 (fun _ => rfl) ⟨_, rfl, I, rfl, eqO.rf, ?_⟩
    unfold lookV
    rw [if_pos (Int32.not_le.mp q1)]
def xp_lookN (I : Nat → Nat → Int32) (k q : Int32) : Int32 := (-1)
theorem c_xp_lookN (d : Nat) {I : Nat → Nat → Int32} {X : MX} (k q : Int32) {nl : Nat} (hn : nl ≤ 6) (h16 : I 1 6 = nI nl) (hno : mIn k 0 (nI nl - 1) = 0) : mjEv (d + 6) nyX11_look [.ref 0, .int k, .int q] (mjH I X) (.inl (some (.int (xp_lookN I k q)))) (mjH I X) := by
  refine mjEv.of ?_
  show mjGo (d + 6) nyX11_look 0 ([some (.ref 0), some (.int k), some (.int q), none], [], mjH I X) _
  refine mjGo.run 2 (pc' := 2) (F' := ([some (.ref 0), some (.int k), some (.int q), none], [.int k, .ref 0], mjH I X)) (fun _ => rfl) ?_
  refine mjGo.call (n := 2) (j := 91) (nx := 5) (o := some (.null)) (h' := mjH I X) (fun _ => rfl) (c_lkNo _ hn h16 hno) ?_
  show mjGo _ _ 5 ([some (.ref 0), some (.int k), some (.int q), none], [.null], mjH I X) _
  have e9 : xp_lookN I k q = (-1) := by unfold xp_lookN; rfl
  rw [e9]
  exact mjGo.ret 5 (fun _ => rfl) rfl
def mp_lookN (I : Nat → Nat → Int32) (k q : Int32) : Int32 := (-1)
theorem c_mp_lookN (d : Nat) {I : Nat → Nat → Int32} {X : MX} (k q : Int32) {nl : Nat} (h44 : I 44 1 = nI nl) (hno : mIn k 0 (nI nl - 1) = 0) : mjEv (d + 6) nyX12_look [.ref 43, .int k, .int q] (mjH I X) (.inl (some (.int (mp_lookN I k q)))) (mjH I X) := by
  refine mjEv.of ?_
  show mjGo (d + 6) nyX12_look 0 ([some (.ref 43), some (.int k), some (.int q)], [], mjH I X) _
  refine mjGo.run 2 (pc' := 2) (F' := ([some (.ref 43), some (.int k), some (.int q)], [.int k, .ref 43], mjH I X)) (fun _ => rfl) ?_
  refine mjGo.call (n := 2) (j := 138) (nx := 5) (o := some (.int 0)) (h' := mjH I X) (fun _ => rfl) ((by have q := c_mIsL (d + 4) k (I := I) (X := X); rw [mIsL, h44, hno] at q; exact q)) ?_
  show mjGo _ _ 5 ([some (.ref 43), some (.int k), some (.int q)], [.int 0], mjH I X) _
  have e9 : mp_lookN I k q = (-1) := by unfold mp_lookN; rfl
  rw [e9]
  exact mjGo.ret 3 (fun _ => rfl) rfl
theorem k_look (d : Nat) (k q : Int32) : CALL (d + 12) nyX11_look nyX12_look [.ref 0, .int k, .int q] [.ref 43, .int k, .int q] := CALL.scr fun I X hR => by
  obtain ⟨np, n9, nl, lw, ho, ⟨hn, h16, h44⟩, ⟨hlw, h18, h443⟩, hlk⟩ := hR.lk
  by_cases h : mIn k 0 (nI nl - 1) = 0
  · refine ⟨_, ⟨I, X, c_xp_lookN (d + 6) k q hn h16 h, eqN.rf, xle.rf, grw.rf⟩, fun J Y hJ e hx => ?_⟩
    have q := c_mp_lookN (d + 6) (I := J) (X := Y) k q ((e 44 1 rfl (by omega)).trans h44) h
    exact ⟨J, q, eqN.rf⟩
  · obtain ⟨i, hi, rfl⟩ := mIn_no h (by omega)
    obtain ⟨a, kd, wn, hl⟩ := hlk i hi
    have hb : MB I i kd wn np n9 nl lw := ⟨ho.2.2.2.2.2.2, hn, h44, hi, hl.2.2.2.2.2.2.2.2.1, hl.2.2.2.2.2.2.1, hl.2.2.2.2.2.2.2.1, h443⟩
    obtain ⟨o, h9, hev, J, Y, rfl, hJ, hY, rfl⟩ := x_look (d + 6) q ho hn h16 hi hl hlw h18
    refine ⟨_, ⟨J, Y, hev, eqN.of hJ scz_scr, xle_of hY, grw_of hY⟩, fun J Y hRJ e hx => ?_⟩
    obtain ⟨hb2, e49, e50, eD⟩ := hb.eq e (by omega)
    obtain ⟨o, h9, hev, L, rfl, hL, rfl⟩ := m_look (d + 6) q (X := Y) hb2
    rw [e49, e50, eD] at hev
    exact ⟨L, hev, eqN.of hL scd_scr⟩
def comesV (s : dyT) (n9 : Nat) (w : Int32) : Int32 := if mIn w 0 (nI n9 - 1) = 0 then -1 else s.2.2.2.2.2.2 w.toNatClampNeg
theorem x_comes (d : Nat) (w : Int32) {np n9 nl lw i a kd wn : Nat} {I : Nat → Nat → Int32} {X : MX} (ho : xOk I np n9) (hn : nl ≤ 6) (h16 : I 1 6 = nI nl) (hi : i < nl) (hl : lkR I X 1 44 i a kd wn) (hlw : lw < 3) (h18 : I 1 8 = nI lw) : mjEvP (d + 6) nyX11_comes [.ref 0, .int (nI i), .int w] (mjH I X) (fun o h2 => ∃ J Y, h2 = mjH J Y ∧ eqO scz I J ∧ (Y = X ∨ Y = mkX X) ∧ o = some (.int (comesV (mD I np n9 (nI kd) (I 49 i) (I 50 i) wn (nI lw)) n9 w))) := by
  obtain ⟨hP, hlk, l0, l1, l2, l3, l4, hwn, l5, hdr⟩ := hl
  have h5 : n9 ≤ 5 := ho.2.2.2.2.2.2.2.2.2.1
  have h15 := ho.2.1
  refine mjEvP.of ?_
  show mjGo (d + 6) nyX11_comes 0 ([some (.ref 0), some (.int (nI i)), some (.int w), none], [], mjH I X) _
  refine mjGo.run 2 (pc' := 2) (F' := ([some (.ref 0), some (.int (nI i)), some (.int w), none], [.int (nI i), .ref 0], mjH I X)) (fun _ => rfl) ?_
  refine mjGo.call (n := 2) (j := 91) (nx := 5) (o := some (.ref a)) (h' := mjH I X) (fun _ => rfl) (c_lkYes _ hn h16 hi hP) ?_
  show mjGo _ _ 5 ([some (.ref 0), some (.int (nI i)), some (.int w), none], [.ref a], mjH I X) _
  refine mjGo.run 6 (pc' := 15) (F' := ([some (.ref 0), some (.int (nI i)), some (.int w), some (.ref a)], [.int w, .ref 1], mjH I X)) (fun _ => rfl) ?_
  refine mjGo.call (n := 2) (j := 41) (nx := 18) (o := some (.int (xHas (I 1 5) w))) (h' := mjH I X) (fun _ => rfl) (c_xHas _ w) ?_
  show mjGo _ _ 18 ([some (.ref 0), some (.int (nI i)), some (.int w), some (.ref a)], [.int (xHas (I 1 5) w)], mjH I X) _
  refine mjGo.run 1 (pc' := (bif decide ((xHas (I 1 5) w) ≠ 0) then 23 else 21)) (F' := ([some (.ref 0), some (.int (nI i)), some (.int w), some (.ref a)], [], mjH I X)) (fun _ => rfl) ?_
  refine mjGo.br (fun q1 => ?_) (fun q1 => ?_)
  · show mjGo _ _ 23 _ _
    refine mjGo.run 6 (pc' := 33) (F' := ([some (.ref 0), some (.int (nI i)), some (.int w), some (.ref a)], [.ref a, .ref a, .ref 1, .ref 19], mjH I X)) (fun _ => rfl) ?_
    refine mjGo.op (pc' := 36) (F' := ([some (.ref 0), some (.int (nI i)), some (.int w), some (.ref a)], [.int (I 50 i), .ref a, .ref 1, .ref 19], mjH I X)) (o := mjgetI [0, 1, 2, 4, 5, 7, 8, 9] 2 36) rfl (fun _ => lkK_get hlk l2) ?_
    refine mjGo.run 3 (pc' := 43) (F' := ([some (.ref 0), some (.int (nI i)), some (.int w), some (.ref a)], [.int (I 1 8), .int (I 50 i), .ref a, .ref 1, .ref 19], mjH I X)) (fun _ => rfl) ?_
    obtain ⟨o9, h9, hev, rfl, J, rfl, heJ, hDJ, h3J⟩ := c_xLive _ (X := X) (I0 := I) (I := I) (fg := I 49 i) (dr := (I 50 i)) (lw := lw) hlk ho eqO.rf l1 l3 hwn hdr hlw
    refine mjGo.call (n := 5) (j := 44) (nx := 46) (o := none) (h' := mjH J (mkX X)) (fun _ => rfl) ((by rw [h18]; exact hev)) ?_
    show mjGo _ _ 46 ([some (.ref 0), some (.int (nI i)), some (.int w), some (.ref a)], [], mjH J (mkX X)) _
    refine mjGo.run 4 (pc' := 54) (F' := ([some (.ref 0), some (.int (nI i)), some (.int w), some (.ref a)], [.int w, .ref 21], mjH J (mkX X))) (fun _ => rfl) ?_
    refine mjGo.op (pc' := 55) (F' := ([some (.ref 0), some (.int (nI i)), some (.int w), some (.ref a)], [.int (J 21 (w).toNatClampNeg)], mjH J (mkX X))) (o := mjiald 55) rfl (fun _ => mjald_i (n := 5) (by rw [h15] at q1; exact mjin_has h5 q1) (rfl) (rfl)) ?_
    refine mjGo.ret 1 (fun _ => rfl) ⟨_, rfl, J, mkX X, rfl, heJ, Or.inr rfl, ?_⟩
    rw [h15, has_eq h5] at q1
    unfold comesV
    rw [if_neg q1]
    obtain ⟨j, hj, rfl⟩ := mIn_no q1 (by omega)
    rw [nI_clamp (by omega)]
    exact congrArg (fun x => some (Value.int x)) (hDJ.2.2.2.2 j hj)
  · show mjGo _ _ 21 _ _
    refine mjGo.ret 2 (fun _ => rfl) ⟨_, rfl, I, X, rfl, eqO.rf, Or.inl rfl, ?_⟩
    rw [h15, has_eq h5] at q1
    unfold comesV
    rw [if_pos (Decidable.not_not.mp q1)]
theorem m_comes (d : Nat) (w : Int32) {i kd wn np n9 nl lw : Nat} {I : Nat → Nat → Int32} {X : MX} (hb : MB I i kd wn np n9 nl lw) : mjEvP (d + 6) nyX12_comes [.ref 43, .int (nI i), .int w] (mjH I X) (fun o h2 => ∃ J, h2 = mjH J X ∧ eqO scd I J ∧ o = some (.int (comesV (mD I np n9 (nI kd) (I 49 i) (I 50 i) wn (nI lw)) n9 w))) := by
  have ⟨ho, hn, h44, hi, m48, m51, hwn, m443⟩ := hb
  have hn9 : I 44 0 = nI n9 := ho.2.2.1
  have h5 : n9 ≤ 5 := ho.2.2.2.1
  refine mjEvP.of ?_
  show mjGo (d + 6) nyX12_comes 0 ([some (.ref 43), some (.int (nI i)), some (.int w)], [], mjH I X) _
  refine mjGo.run 2 (pc' := 2) (F' := ([some (.ref 43), some (.int (nI i)), some (.int w)], [.int (nI i), .ref 43], mjH I X)) (fun _ => rfl) ?_
  refine mjGo.call (n := 2) (j := 138) (nx := 5) (o := some (.int 1)) (h' := mjH I X) (fun _ => rfl) ((by have q := c_mIsL (d + 4) (nI i) (I := I) (X := X); rw [mIsL, h44, mIn_yes hi (by omega)] at q; exact q)) ?_
  show mjGo _ _ 5 ([some (.ref 43), some (.int (nI i)), some (.int w)], [.int 1], mjH I X) _
  refine mjGo.run 3 (pc' := 10) (F' := ([some (.ref 43), some (.int (nI i)), some (.int w)], [.int w, .ref 43], mjH I X)) (fun _ => rfl) ?_
  refine mjGo.call (n := 2) (j := 137) (nx := 13) (o := some (.int (mIsW I w))) (h' := mjH I X) (fun _ => rfl) (c_mIsW (d + 4) w) ?_
  show mjGo _ _ 13 ([some (.ref 43), some (.int (nI i)), some (.int w)], [.int (mIsW I w)], mjH I X) _
  refine mjGo.run 1 (pc' := (bif decide ((mIsW I w) ≠ 0) then 18 else 16)) (F' := ([some (.ref 43), some (.int (nI i)), some (.int w)], [], mjH I X)) (fun _ => rfl) ?_
  refine mjGo.br (fun q1 => ?_) (fun q1 => ?_)
  · show mjGo _ _ 18 _ _
    refine mjGo.run 2 (pc' := 20) (F' := ([some (.ref 43), some (.int (nI i)), some (.int w)], [.int (nI i), .ref 43], mjH I X)) (fun _ => rfl) ?_
    obtain ⟨o9, h9, hev, J, rfl, heJ, hdJ, rfl⟩ := c_mDayOf _ (X := X) hb
    refine mjGo.call (n := 2) (j := 153) (nx := 23) (o := some (.int (dyCost (mD I np n9 (nI kd) (I 49 i) (I 50 i) wn (nI lw))))) (h' := mjH J X) (fun _ => rfl) (hev) ?_
    show mjGo _ _ 23 ([some (.ref 43), some (.int (nI i)), some (.int w)], [.int (dyCost (mD I np n9 (nI kd) (I 49 i) (I 50 i) wn (nI lw)))], mjH J X) _
    refine mjGo.run 4 (pc' := 29) (F' := ([some (.ref 43), some (.int (nI i)), some (.int w)], [.int w, .ref 63], mjH J X)) (fun _ => rfl) ?_
    refine mjGo.op (pc' := 30) (F' := ([some (.ref 43), some (.int (nI i)), some (.int w)], [.int (J 63 (w).toNatClampNeg)], mjH J X)) (o := mjiald 30) rfl (fun _ => mjald_i (n := 5) (by rw [mIsW, hn9] at q1; exact mjin_mIn h5 (by omega) q1) (rfl) (rfl)) ?_
    refine mjGo.ret 1 (fun _ => rfl) ⟨_, rfl, J, rfl, heJ, ?_⟩
    rw [mIsW, hn9] at q1
    unfold comesV
    rw [if_neg q1]
    obtain ⟨j, hj, rfl⟩ := mIn_no q1 (by omega)
    rw [nI_clamp (by omega)]
    exact congrArg (fun x => some (Value.int x)) (hdJ.2.2.2.2 j hj)
  · show mjGo _ _ 16 _ _
    refine mjGo.ret 2 (fun _ => rfl) ⟨_, rfl, I, rfl, eqO.rf, ?_⟩
    rw [mIsW, hn9] at q1
    unfold comesV
    rw [if_pos (Decidable.not_not.mp q1)]
def xp_comesN (I : Nat → Nat → Int32) (k w : Int32) : Int32 := (-1)
theorem c_xp_comesN (d : Nat) {I : Nat → Nat → Int32} {X : MX} (k w : Int32) {nl : Nat} (hn : nl ≤ 6) (h16 : I 1 6 = nI nl) (hno : mIn k 0 (nI nl - 1) = 0) : mjEv (d + 6) nyX11_comes [.ref 0, .int k, .int w] (mjH I X) (.inl (some (.int (xp_comesN I k w)))) (mjH I X) := by
  refine mjEv.of ?_
  show mjGo (d + 6) nyX11_comes 0 ([some (.ref 0), some (.int k), some (.int w), none], [], mjH I X) _
  refine mjGo.run 2 (pc' := 2) (F' := ([some (.ref 0), some (.int k), some (.int w), none], [.int k, .ref 0], mjH I X)) (fun _ => rfl) ?_
  refine mjGo.call (n := 2) (j := 91) (nx := 5) (o := some (.null)) (h' := mjH I X) (fun _ => rfl) (c_lkNo _ hn h16 hno) ?_
  show mjGo _ _ 5 ([some (.ref 0), some (.int k), some (.int w), none], [.null], mjH I X) _
  have e9 : xp_comesN I k w = (-1) := by unfold xp_comesN; rfl
  rw [e9]
  exact mjGo.ret 5 (fun _ => rfl) rfl
def mp_comesN (I : Nat → Nat → Int32) (k w : Int32) : Int32 := (-1)
theorem c_mp_comesN (d : Nat) {I : Nat → Nat → Int32} {X : MX} (k w : Int32) {nl : Nat} (h44 : I 44 1 = nI nl) (hno : mIn k 0 (nI nl - 1) = 0) : mjEv (d + 6) nyX12_comes [.ref 43, .int k, .int w] (mjH I X) (.inl (some (.int (mp_comesN I k w)))) (mjH I X) := by
  refine mjEv.of ?_
  show mjGo (d + 6) nyX12_comes 0 ([some (.ref 43), some (.int k), some (.int w)], [], mjH I X) _
  refine mjGo.run 2 (pc' := 2) (F' := ([some (.ref 43), some (.int k), some (.int w)], [.int k, .ref 43], mjH I X)) (fun _ => rfl) ?_
  refine mjGo.call (n := 2) (j := 138) (nx := 5) (o := some (.int 0)) (h' := mjH I X) (fun _ => rfl) ((by have q := c_mIsL (d + 4) k (I := I) (X := X); rw [mIsL, h44, hno] at q; exact q)) ?_
  show mjGo _ _ 5 ([some (.ref 43), some (.int k), some (.int w)], [.int 0], mjH I X) _
  have e9 : mp_comesN I k w = (-1) := by unfold mp_comesN; rfl
  rw [e9]
  exact mjGo.ret 3 (fun _ => rfl) rfl
theorem k_comes (d : Nat) (k w : Int32) : CALL (d + 12) nyX11_comes nyX12_comes [.ref 0, .int k, .int w] [.ref 43, .int k, .int w] := CALL.scr fun I X hR => by
  obtain ⟨np, n9, nl, lw, ho, ⟨hn, h16, h44⟩, ⟨hlw, h18, h443⟩, hlk⟩ := hR.lk
  by_cases h : mIn k 0 (nI nl - 1) = 0
  · refine ⟨_, ⟨I, X, c_xp_comesN (d + 6) k w hn h16 h, eqN.rf, xle.rf, grw.rf⟩, fun J Y hJ e hx => ?_⟩
    have q := c_mp_comesN (d + 6) (I := J) (X := Y) k w ((e 44 1 rfl (by omega)).trans h44) h
    exact ⟨J, q, eqN.rf⟩
  · obtain ⟨i, hi, rfl⟩ := mIn_no h (by omega)
    obtain ⟨a, kd, wn, hl⟩ := hlk i hi
    have hb : MB I i kd wn np n9 nl lw := ⟨ho.2.2.2.2.2.2, hn, h44, hi, hl.2.2.2.2.2.2.2.2.1, hl.2.2.2.2.2.2.1, hl.2.2.2.2.2.2.2.1, h443⟩
    obtain ⟨o, h9, hev, J, Y, rfl, hJ, hY, rfl⟩ := x_comes (d + 6) w ho hn h16 hi hl hlw h18
    refine ⟨_, ⟨J, Y, hev, eqN.of hJ scz_scr, xle_of hY, grw_of hY⟩, fun J Y hRJ e hx => ?_⟩
    obtain ⟨hb2, e49, e50, eD⟩ := hb.eq e (by omega)
    obtain ⟨o, h9, hev, L, rfl, hL, rfl⟩ := m_comes (d + 6) w (X := Y) hb2
    rw [e49, e50, eD] at hev
    exact ⟨L, hev, eqN.of hL scd_scr⟩
theorem x_byLaw (d : Nat) (q : Int32) {np n9 nl lw i a kd wn : Nat} {I : Nat → Nat → Int32} {X : MX} (ho : xOk I np n9) (hn : nl ≤ 6) (h16 : I 1 6 = nI nl) (hi : i < nl) (hl : lkR I X 1 44 i a kd wn) (hlw : lw < 3) (h18 : I 1 8 = nI lw) : mjEvP (d + 6) nyX11_byLaw [.ref 0, .int (nI i), .int q] (mjH I X) (fun o h2 => ∃ J Y, h2 = mjH J Y ∧ eqO scz I J ∧ (Y = X ∨ Y = mkX X) ∧ o = some (.int (if mIn q 0 2 = 0 then -1 else dyCost (mD I np n9 (nI kd) (I 49 i) (I 50 i) wn q)))) := by
  obtain ⟨hP, hlk, l0, l1, l2, l3, l4, hwn, l5, hdr⟩ := hl
  refine mjEvP.of ?_
  show mjGo (d + 6) nyX11_byLaw 0 ([some (.ref 0), some (.int (nI i)), some (.int q), none], [], mjH I X) _
  refine mjGo.run 2 (pc' := 2) (F' := ([some (.ref 0), some (.int (nI i)), some (.int q), none], [.int (nI i), .ref 0], mjH I X)) (fun _ => rfl) ?_
  refine mjGo.call (n := 2) (j := 91) (nx := 5) (o := some (.ref a)) (h' := mjH I X) (fun _ => rfl) (c_lkYes _ hn h16 hi hP) ?_
  show mjGo _ _ 5 ([some (.ref 0), some (.int (nI i)), some (.int q), none], [.ref a], mjH I X) _
  refine mjGo.run 5 (pc' := (bif decide (q < 0) then 19 else 14)) (F' := ([some (.ref 0), some (.int (nI i)), some (.int q), some (.ref a)], [], mjH I X)) (fun _ => rfl) ?_
  refine mjGo.br (fun q1 => ?_) (fun q1 => ?_)
  · show mjGo _ _ 19 _ _
    refine mjGo.ret 2 (fun _ => rfl) ⟨_, rfl, I, X, rfl, eqO.rf, Or.inl rfl, ?_⟩
    unfold mIn
    rw [if_pos q1, if_pos rfl]
  · show mjGo _ _ 14 _ _
    refine mjGo.run 3 (pc' := (bif decide (q < 3) then 21 else 19)) (F' := ([some (.ref 0), some (.int (nI i)), some (.int q), some (.ref a)], [], mjH I X)) (fun _ => rfl) ?_
    refine mjGo.br (fun q2 => ?_) (fun q2 => ?_)
    · show mjGo _ _ 21 _ _
      refine mjGo.run 6 (pc' := 31) (F' := ([some (.ref 0), some (.int (nI i)), some (.int q), some (.ref a)], [.ref a, .ref a, .ref 1, .ref 19], mjH I X)) (fun _ => rfl) ?_
      refine mjGo.op (pc' := 34) (F' := ([some (.ref 0), some (.int (nI i)), some (.int q), some (.ref a)], [.int (I 50 i), .ref a, .ref 1, .ref 19], mjH I X)) (o := mjgetI [0, 1, 2, 4, 5, 7, 8, 9] 2 34) rfl (fun _ => lkK_get hlk l2) ?_
      refine mjGo.run 1 (pc' := 35) (F' := ([some (.ref 0), some (.int (nI i)), some (.int q), some (.ref a)], [.int q, .int (I 50 i), .ref a, .ref 1, .ref 19], mjH I X)) (fun _ => rfl) ?_
      obtain ⟨l9, hl9, hq⟩ : ∃ l, l < 3 ∧ q = nI l := by
        obtain ⟨l, h1, h2⟩ := nI_of2 (n := 2) (M := 2) (by decide) q1 (by rw [i32_lt] at q2; rw [i32_le]; have e3 : (3 : Int32).toInt = 3 := (by decide); have e2 : (2 : Int32).toInt = 2 := (by decide); omega)
        exact ⟨l, by omega, h2⟩
      obtain ⟨o9, h9, hev, rfl, J, rfl, heJ, hDJ, h3J⟩ := c_xLive _ (X := X) (I0 := I) (I := I) (fg := I 49 i) (dr := (I 50 i)) (lw := l9) hlk ho eqO.rf l1 l3 hwn hdr hl9
      refine mjGo.call (n := 5) (j := 44) (nx := 38) (o := none) (h' := mjH J (mkX X)) (fun _ => rfl) ((by rw [hq]; exact hev)) ?_
      show mjGo _ _ 38 ([some (.ref 0), some (.int (nI i)), some (.int q), some (.ref a)], [], mjH J (mkX X)) _
      refine mjGo.ret 4 (fun _ => rfl) ⟨_, rfl, J, mkX X, rfl, heJ, Or.inr rfl, ?_⟩
      rw [hq, if_neg (show ¬ mIn (nI l9) 0 2 = 0 by unfold mIn; rw [if_neg (nI_pos (by omega)), if_neg (show ¬ 2 < nI l9 by rw [show (2 : Int32) = nI 2 from rfl, nI_ltI (by omega) (by omega)]; omega)]; decide)]
      exact congrArg (fun x => some (Value.int x)) (xDS_cost hDJ)
    · show mjGo _ _ 19 _ _
      refine mjGo.ret 2 (fun _ => rfl) ⟨_, rfl, I, X, rfl, eqO.rf, Or.inl rfl, ?_⟩
      unfold mIn
      rw [if_neg q1, if_pos (show 2 < q by rw [i32_lt] at *; have e3 : (3 : Int32).toInt = 3 := (by decide); have e2 : (2 : Int32).toInt = 2 := (by decide); omega), if_pos rfl]
theorem m_byLaw (d : Nat) (q : Int32) {i kd wn np n9 nl lw : Nat} {I : Nat → Nat → Int32} {X : MX} (hb : MB I i kd wn np n9 nl lw) : mjEvP (d + 6) nyX12_byLaw [.ref 43, .int (nI i), .int q] (mjH I X) (fun o h2 => ∃ J, h2 = mjH J X ∧ eqO scd I J ∧ o = some (.int (if mIn q 0 2 = 0 then -1 else dyCost (mD I np n9 (nI kd) (I 49 i) (I 50 i) wn q)))) := by
  have ⟨ho, hn, h44, hi, m48, m51, hwn, m443⟩ := hb
  refine mjEvP.of ?_
  show mjGo (d + 6) nyX12_byLaw 0 ([some (.ref 43), some (.int (nI i)), some (.int q)], [], mjH I X) _
  refine mjGo.run 2 (pc' := 2) (F' := ([some (.ref 43), some (.int (nI i)), some (.int q)], [.int (nI i), .ref 43], mjH I X)) (fun _ => rfl) ?_
  refine mjGo.call (n := 2) (j := 138) (nx := 5) (o := some (.int 1)) (h' := mjH I X) (fun _ => rfl) ((by have q := c_mIsL (d + 4) (nI i) (I := I) (X := X); rw [mIsL, h44, mIn_yes hi (by omega)] at q; exact q)) ?_
  show mjGo _ _ 5 ([some (.ref 43), some (.int (nI i)), some (.int q)], [.int 1], mjH I X) _
  refine mjGo.run 4 (pc' := 11) (F' := ([some (.ref 43), some (.int (nI i)), some (.int q)], [.int 2, .int 0, .int q], mjH I X)) (fun _ => rfl) ?_
  refine mjGo.call (n := 3) (j := 132) (nx := 14) (o := some (.int (mIn q 0 2))) (h' := mjH I X) (fun _ => rfl) (c_mIn (d + 5) q 0 2 _) ?_
  show mjGo _ _ 14 ([some (.ref 43), some (.int (nI i)), some (.int q)], [.int (mIn q 0 2)], mjH I X) _
  refine mjGo.run 1 (pc' := (bif decide ((mIn q 0 2) = 0) then 49 else 17)) (F' := ([some (.ref 43), some (.int (nI i)), some (.int q)], [], mjH I X)) (fun _ => rfl) ?_
  refine mjGo.br (fun q1 => ?_) (fun q1 => ?_)
  · show mjGo _ _ 49 _ _
    refine mjGo.ret 2 (fun _ => rfl) ⟨_, rfl, I, rfl, eqO.rf, ?_⟩
    rw [if_pos q1]
  · show mjGo _ _ 17 _ _
    refine mjGo.run 4 (pc' := 23) (F' := ([some (.ref 43), some (.int (nI i)), some (.int q)], [.int (nI i), .ref 48, .ref 43], mjH I X)) (fun _ => rfl) ?_
    refine mjGo.op (pc' := 24) (F' := ([some (.ref 43), some (.int (nI i)), some (.int q)], [.int (I 48 i), .ref 43], mjH I X)) (o := mjiald 24) rfl (fun _ => mjald_n (n := 6) (by omega) (by decide) (rfl) (rfl)) ?_
    refine mjGo.run 3 (pc' := 29) (F' := ([some (.ref 43), some (.int (nI i)), some (.int q)], [.int (nI i), .ref 49, .int (I 48 i), .ref 43], mjH I X)) (fun _ => rfl) ?_
    refine mjGo.op (pc' := 30) (F' := ([some (.ref 43), some (.int (nI i)), some (.int q)], [.int (I 49 i), .int (I 48 i), .ref 43], mjH I X)) (o := mjiald 30) rfl (fun _ => mjald_n (n := 6) (by omega) (by decide) (rfl) (rfl)) ?_
    refine mjGo.run 3 (pc' := 35) (F' := ([some (.ref 43), some (.int (nI i)), some (.int q)], [.int (nI i), .ref 50, .int (I 49 i), .int (I 48 i), .ref 43], mjH I X)) (fun _ => rfl) ?_
    refine mjGo.op (pc' := 36) (F' := ([some (.ref 43), some (.int (nI i)), some (.int q)], [.int (I 50 i), .int (I 49 i), .int (I 48 i), .ref 43], mjH I X)) (o := mjiald 36) rfl (fun _ => mjald_n (n := 6) (by omega) (by decide) (rfl) (rfl)) ?_
    refine mjGo.run 3 (pc' := 41) (F' := ([some (.ref 43), some (.int (nI i)), some (.int q)], [.int (nI i), .ref 51, .int (I 50 i), .int (I 49 i), .int (I 48 i), .ref 43], mjH I X)) (fun _ => rfl) ?_
    refine mjGo.op (pc' := 42) (F' := ([some (.ref 43), some (.int (nI i)), some (.int q)], [.int (I 51 i), .int (I 50 i), .int (I 49 i), .int (I 48 i), .ref 43], mjH I X)) (o := mjiald 42) rfl (fun _ => mjald_n (n := 6) (by omega) (by decide) (rfl) (rfl)) ?_
    refine mjGo.run 1 (pc' := 43) (F' := ([some (.ref 43), some (.int (nI i)), some (.int q)], [.int q, .int (I 51 i), .int (I 50 i), .int (I 49 i), .int (I 48 i), .ref 43], mjH I X)) (fun _ => rfl) ?_
    obtain ⟨o9, h9, hev, J, rfl, heJ, hdJ, rfl⟩ := c_mDay _ (k := nI kd) (f := (I 49 i)) (dr := (I 50 i)) (wn := wn) (law := q) (X := X) ho (eqO.rf (I := I)) hwn
    refine mjGo.call (n := 6) (j := 151) (nx := 46) (o := some (.int (dyCost (mD I np n9 (nI kd) (I 49 i) (I 50 i) wn q)))) (h' := mjH J X) (fun _ => rfl) ((by rw [m48, m51]; exact hev)) ?_
    show mjGo _ _ 46 ([some (.ref 43), some (.int (nI i)), some (.int q)], [.int (dyCost (mD I np n9 (nI kd) (I 49 i) (I 50 i) wn q))], mjH J X) _
    refine mjGo.ret 2 (fun _ => rfl) ⟨_, rfl, J, rfl, heJ, ?_⟩
    rw [if_neg q1]
def xp_byLawN (I : Nat → Nat → Int32) (k q : Int32) : Int32 := (-1)
theorem c_xp_byLawN (d : Nat) {I : Nat → Nat → Int32} {X : MX} (k q : Int32) {nl : Nat} (hn : nl ≤ 6) (h16 : I 1 6 = nI nl) (hno : mIn k 0 (nI nl - 1) = 0) : mjEv (d + 6) nyX11_byLaw [.ref 0, .int k, .int q] (mjH I X) (.inl (some (.int (xp_byLawN I k q)))) (mjH I X) := by
  refine mjEv.of ?_
  show mjGo (d + 6) nyX11_byLaw 0 ([some (.ref 0), some (.int k), some (.int q), none], [], mjH I X) _
  refine mjGo.run 2 (pc' := 2) (F' := ([some (.ref 0), some (.int k), some (.int q), none], [.int k, .ref 0], mjH I X)) (fun _ => rfl) ?_
  refine mjGo.call (n := 2) (j := 91) (nx := 5) (o := some (.null)) (h' := mjH I X) (fun _ => rfl) (c_lkNo _ hn h16 hno) ?_
  show mjGo _ _ 5 ([some (.ref 0), some (.int k), some (.int q), none], [.null], mjH I X) _
  have e9 : xp_byLawN I k q = (-1) := by unfold xp_byLawN; rfl
  rw [e9]
  exact mjGo.ret 5 (fun _ => rfl) rfl
def mp_byLawN (I : Nat → Nat → Int32) (k q : Int32) : Int32 := (-1)
theorem c_mp_byLawN (d : Nat) {I : Nat → Nat → Int32} {X : MX} (k q : Int32) {nl : Nat} (h44 : I 44 1 = nI nl) (hno : mIn k 0 (nI nl - 1) = 0) : mjEv (d + 6) nyX12_byLaw [.ref 43, .int k, .int q] (mjH I X) (.inl (some (.int (mp_byLawN I k q)))) (mjH I X) := by
  refine mjEv.of ?_
  show mjGo (d + 6) nyX12_byLaw 0 ([some (.ref 43), some (.int k), some (.int q)], [], mjH I X) _
  refine mjGo.run 2 (pc' := 2) (F' := ([some (.ref 43), some (.int k), some (.int q)], [.int k, .ref 43], mjH I X)) (fun _ => rfl) ?_
  refine mjGo.call (n := 2) (j := 138) (nx := 5) (o := some (.int 0)) (h' := mjH I X) (fun _ => rfl) ((by have q := c_mIsL (d + 4) k (I := I) (X := X); rw [mIsL, h44, hno] at q; exact q)) ?_
  show mjGo _ _ 5 ([some (.ref 43), some (.int k), some (.int q)], [.int 0], mjH I X) _
  have e9 : mp_byLawN I k q = (-1) := by unfold mp_byLawN; rfl
  rw [e9]
  exact mjGo.ret 3 (fun _ => rfl) rfl
theorem k_byLaw (d : Nat) (k q : Int32) : CALL (d + 12) nyX11_byLaw nyX12_byLaw [.ref 0, .int k, .int q] [.ref 43, .int k, .int q] := CALL.scr fun I X hR => by
  obtain ⟨np, n9, nl, lw, ho, ⟨hn, h16, h44⟩, ⟨hlw, h18, h443⟩, hlk⟩ := hR.lk
  by_cases h : mIn k 0 (nI nl - 1) = 0
  · refine ⟨_, ⟨I, X, c_xp_byLawN (d + 6) k q hn h16 h, eqN.rf, xle.rf, grw.rf⟩, fun J Y hJ e hx => ?_⟩
    have q := c_mp_byLawN (d + 6) (I := J) (X := Y) k q ((e 44 1 rfl (by omega)).trans h44) h
    exact ⟨J, q, eqN.rf⟩
  · obtain ⟨i, hi, rfl⟩ := mIn_no h (by omega)
    obtain ⟨a, kd, wn, hl⟩ := hlk i hi
    have hb : MB I i kd wn np n9 nl lw := ⟨ho.2.2.2.2.2.2, hn, h44, hi, hl.2.2.2.2.2.2.2.2.1, hl.2.2.2.2.2.2.1, hl.2.2.2.2.2.2.2.1, h443⟩
    obtain ⟨o, h9, hev, J, Y, rfl, hJ, hY, rfl⟩ := x_byLaw (d + 6) q ho hn h16 hi hl hlw h18
    refine ⟨_, ⟨J, Y, hev, eqN.of hJ scz_scr, xle_of hY, grw_of hY⟩, fun J Y hRJ e hx => ?_⟩
    obtain ⟨hb2, e49, e50, eD⟩ := hb.eq e (by omega)
    obtain ⟨o, h9, hev, L, rfl, hL, rfl⟩ := m_byLaw (d + 6) q (X := Y) hb2
    rw [e49, e50, eD] at hev
    exact ⟨L, hev, eqN.of hL scd_scr⟩
