/-! seeded: the call -/
def sdF (I : Nat → Nat → Int32) (np n9 i kd wn lw : Nat) (m z q : Int32) : Int32 := if mIn m 1 20 = 0 then -1 else if mIn q 0 2 = 0 then -1 else sdV (fun t => mD I np n9 (nI kd) (I 49 i) t wn (nI lw)) (I 50 i) q m.toNatClampNeg z 0 0 0
theorem sdF_n {I : Nat → Nat → Int32} {np n9 i kd wn lw : Nat} {m z q : Int32} (h : mIn m 1 20 = 0) : sdF I np n9 i kd wn lw m z q = -1 := if_pos h
theorem sdF_q {I : Nat → Nat → Int32} {np n9 i kd wn lw : Nat} {m z q : Int32} (h : mIn q 0 2 = 0) : sdF I np n9 i kd wn lw m z q = -1 := by
  unfold sdF
  rw [if_pos h]
  split <;> rfl
theorem mIn_lo {v a b : Int32} (h : v < a) : mIn v a b = 0 := if_pos h
theorem mIn_hi {v a b : Int32} (h : b < v) : mIn v a b = 0 := by
  unfold mIn
  by_cases q : v < a
  · rw [if_pos q]
  · rw [if_neg q, if_pos h]
theorem mIn_ok {v a b : Int32} (h1 : ¬ v < a) (h2 : ¬ b < v) : mIn v a b = 1 := by
  unfold mIn
  rw [if_neg h1, if_neg h2]
theorem sdF_ok {I : Nat → Nat → Int32} {np n9 i kd wn lw : Nat} {m z q : Int32} (h1 : mIn m 1 20 ≠ 0) (h2 : mIn q 0 2 ≠ 0) : sdF I np n9 i kd wn lw m z q = sdV (fun t => mD I np n9 (nI kd) (I 49 i) t wn (nI lw)) (I 50 i) q m.toNatClampNeg z 0 0 0 := by
  unfold sdF
  rw [if_neg h1, if_neg h2]
theorem mIn_20 {m : Int32} (h : mIn m 1 20 ≠ 0) : ∃ nn, nn ≤ 20 ∧ m = nI nn := by
  have h1 : ¬ m < 1 := fun q => h (mIn_lo q)
  have h2 : ¬ 20 < m := fun q => h (mIn_hi q)
  have e1 : (1 : Int32).toInt = 1 := by decide
  have e2 : (20 : Int32).toInt = 20 := by decide
  rw [i32_lt, e1] at h1
  rw [i32_lt, e2] at h2
  obtain ⟨j, hj, rfl⟩ := nI_of (x := m) (by rw [i32_lt]; have e0 : (0 : Int32).toInt = 0 := (by decide); omega)
  rw [nI_toInt hj] at h2
  exact ⟨j, by omega, rfl⟩
theorem x_seeded (d : Nat) (m z q : Int32) {np n9 nl lw i a kd wn : Nat} {I : Nat → Nat → Int32} {X : MX} (ho : xOk I np n9) (hn : nl ≤ 6) (h16 : I 1 6 = nI nl) (hi : i < nl) (hl : lkR I X 1 44 i a kd wn) (hlw : lw < 3) (h18 : I 1 8 = nI lw) : mjEvP (d + 6) nyX11_seeded [.ref 0, .int (nI i), .int m, .int z, .int q] (mjH I X) (fun o h2 => ∃ J Y, h2 = mjH J Y ∧ eqO scz I J ∧ (Y = X ∨ Y = mkX X) ∧ o = some (.int (sdF I np n9 i kd wn lw m z q))) := by
  obtain ⟨hP, hlk, l0, l1, l2, l3, l4, hwn, l5, hdr⟩ := hl
  refine mjEvP.of ?_
  show mjGo (d + 6) nyX11_seeded 0 ([some (.ref 0), some (.int (nI i)), some (.int m), some (.int z), some (.int q), none, none, none, none, none, none, none, none], [], mjH I X) _
  refine mjGo.run 2 (pc' := 2) (F' := ([some (.ref 0), some (.int (nI i)), some (.int m), some (.int z), some (.int q), none, none, none, none, none, none, none, none], [.int (nI i), .ref 0], mjH I X)) (fun _ => rfl) ?_
  refine mjGo.call (n := 2) (j := 91) (nx := 5) (o := some (.ref a)) (h' := mjH I X) (fun _ => rfl) (c_lkYes _ hn h16 hi hP) ?_
  show mjGo _ _ 5 ([some (.ref 0), some (.int (nI i)), some (.int m), some (.int z), some (.int q), none, none, none, none, none, none, none, none], [.ref a], mjH I X) _
  refine mjGo.run 6 (pc' := (bif decide (m < 1) then 34 else 17)) (F' := ([some (.ref 0), some (.int (nI i)), some (.int m), some (.int z), some (.int q), some (.ref a), none, none, none, none, none, none, none], [], mjH I X)) (fun _ => rfl) ?_
  refine mjGo.br (fun q1 => ?_) (fun q1 => ?_)
  · show mjGo _ _ 34 _ _
    rw [sdF_n (mIn_lo q1)]
    exact mjGo.ret 2 (fun _ => rfl) ⟨_, rfl, I, X, rfl, eqO.rf, Or.inl rfl, rfl⟩
  · show mjGo _ _ 17 _ _
    refine mjGo.run 3 (pc' := (bif decide (20 < m) then 34 else 23)) (F' := ([some (.ref 0), some (.int (nI i)), some (.int m), some (.int z), some (.int q), some (.ref a), none, none, none, none, none, none, none], [], mjH I X)) (fun _ => rfl) ?_
    refine mjGo.br (fun q2 => ?_) (fun q2 => ?_)
    · show mjGo _ _ 34 _ _
      rw [sdF_n (mIn_hi q2)]
      exact mjGo.ret 2 (fun _ => rfl) ⟨_, rfl, I, X, rfl, eqO.rf, Or.inl rfl, rfl⟩
    · show mjGo _ _ 23 _ _
      refine mjGo.run 2 (pc' := (bif decide (q < 0) then 34 else 28)) (F' := ([some (.ref 0), some (.int (nI i)), some (.int m), some (.int z), some (.int q), some (.ref a), none, none, none, none, none, none, none], [], mjH I X)) (fun _ => rfl) ?_
      refine mjGo.br (fun q3 => ?_) (fun q3 => ?_)
      · show mjGo _ _ 34 _ _
        rw [sdF_q (mIn_lo q3)]
        exact mjGo.ret 2 (fun _ => rfl) ⟨_, rfl, I, X, rfl, eqO.rf, Or.inl rfl, rfl⟩
      · show mjGo _ _ 28 _ _
        refine mjGo.run 3 (pc' := (bif decide (q ≤ 2) then 36 else 34)) (F' := ([some (.ref 0), some (.int (nI i)), some (.int m), some (.int z), some (.int q), some (.ref a), none, none, none, none, none, none, none], [], mjH I X)) (fun _ => rfl) ?_
        refine mjGo.br (fun q4 => ?_) (fun q4 => ?_)
        · show mjGo _ _ 36 _ _
          refine mjGo.run 10 (pc' := 51) (F' := ([some (.ref 0), some (.int (nI i)), some (.int m), some (.int z), some (.int q), some (.ref a), some (.int z), some (.int 0), some (.int 0), some (.int 0), some (.int 0), none, none], [], mjH I X)) (fun _ => rfl) ?_
          have hm : mIn m 1 20 ≠ 0 := by rw [mIn_ok q1 q2]; decide
          have hq : mIn q 0 2 ≠ 0 := by rw [mIn_ok q3 (Int32.not_lt.mpr q4)]; decide
          rw [sdF_ok hm hq]
          obtain ⟨nn, hnn, rfl⟩ := mIn_20 hm
          rw [nI_clamp (by omega)]
          obtain ⟨n, x, hx, J, Y, rfl, h1, h2⟩ := x_sd_loop (d := d) (X1 := X) (z := z) (q := q) ho hlk l1 l2 l3 h18 hwn hlw hnn nn 0 I X z 0 0 0 none none (by omega) eqO.rf (Or.inl rfl)
          exact ⟨n, _, hx, _, rfl, J, Y, rfl, h1, h2, rfl⟩
        · show mjGo _ _ 34 _ _
          rw [sdF_q (mIn_hi (Int32.not_le.mp q4))]
          exact mjGo.ret 2 (fun _ => rfl) ⟨_, rfl, I, X, rfl, eqO.rf, Or.inl rfl, rfl⟩
theorem m_seeded (d : Nat) (m z q : Int32) {i kd wn np n9 nl lw : Nat} {I : Nat → Nat → Int32} {X : MX} (hb : MB I i kd wn np n9 nl lw) : mjEvP (d + 4) nyX12_seeded [.ref 43, .int (nI i), .int m, .int z, .int q] (mjH I X) (fun o h2 => ∃ J, h2 = mjH J X ∧ eqO scd I J ∧ o = some (.int (sdF I np n9 i kd wn lw m z q))) := by
  have ⟨ho, hn, h44, hi, m48, m51, hwn, m443⟩ := hb
  refine mjEvP.of ?_
  show mjGo (d + 4) nyX12_seeded 0 ([some (.ref 43), some (.int (nI i)), some (.int m), some (.int z), some (.int q), none, none, none, none, none, none, none], [], mjH I X) _
  refine mjGo.run 2 (pc' := 2) (F' := ([some (.ref 43), some (.int (nI i)), some (.int m), some (.int z), some (.int q), none, none, none, none, none, none, none], [.int (nI i), .ref 43], mjH I X)) (fun _ => rfl) ?_
  refine mjGo.call (n := 2) (j := 138) (nx := 5) (o := some (.int 1)) (h' := mjH I X) (fun _ => rfl) ((by have q := c_mIsL (d + 2) (nI i) (I := I) (X := X); rw [mIsL, h44, mIn_yes hi (by omega)] at q; exact q)) ?_
  show mjGo _ _ 5 ([some (.ref 43), some (.int (nI i)), some (.int m), some (.int z), some (.int q), none, none, none, none, none, none, none], [.int 1], mjH I X) _
  refine mjGo.run 4 (pc' := 12) (F' := ([some (.ref 43), some (.int (nI i)), some (.int m), some (.int z), some (.int q), none, none, none, none, none, none, none], [.int 20, .int 1, .int m], mjH I X)) (fun _ => rfl) ?_
  refine mjGo.call (n := 3) (j := 132) (nx := 15) (o := some (.int (mIn m 1 20))) (h' := mjH I X) (fun _ => rfl) (c_mIn (d + 3) m 1 20 _) ?_
  show mjGo _ _ 15 ([some (.ref 43), some (.int (nI i)), some (.int m), some (.int z), some (.int q), none, none, none, none, none, none, none], [.int (mIn m 1 20)], mjH I X) _
  refine mjGo.run 1 (pc' := (bif decide ((mIn m 1 20) = 0) then 28 else 18)) (F' := ([some (.ref 43), some (.int (nI i)), some (.int m), some (.int z), some (.int q), none, none, none, none, none, none, none], [], mjH I X)) (fun _ => rfl) ?_
  refine mjGo.br (fun q1 => ?_) (fun q1 => ?_)
  · show mjGo _ _ 28 _ _
    rw [sdF_n q1]
    exact mjGo.ret 2 (fun _ => rfl) ⟨_, rfl, I, rfl, eqO.rf, rfl⟩
  · show mjGo _ _ 18 _ _
    refine mjGo.run 3 (pc' := 22) (F' := ([some (.ref 43), some (.int (nI i)), some (.int m), some (.int z), some (.int q), none, none, none, none, none, none, none], [.int 2, .int 0, .int q], mjH I X)) (fun _ => rfl) ?_
    refine mjGo.call (n := 3) (j := 132) (nx := 25) (o := some (.int (mIn q 0 2))) (h' := mjH I X) (fun _ => rfl) (c_mIn (d + 3) q 0 2 _) ?_
    show mjGo _ _ 25 ([some (.ref 43), some (.int (nI i)), some (.int m), some (.int z), some (.int q), none, none, none, none, none, none, none], [.int (mIn q 0 2)], mjH I X) _
    refine mjGo.run 1 (pc' := (bif decide ((mIn q 0 2) ≠ 0) then 30 else 28)) (F' := ([some (.ref 43), some (.int (nI i)), some (.int m), some (.int z), some (.int q), none, none, none, none, none, none, none], [], mjH I X)) (fun _ => rfl) ?_
    refine mjGo.br (fun q2 => ?_) (fun q2 => ?_)
    · show mjGo _ _ 30 _ _
      refine mjGo.run 10 (pc' := 45) (F' := ([some (.ref 43), some (.int (nI i)), some (.int m), some (.int z), some (.int q), some (.int z), some (.int 0), some (.int 0), some (.int 0), some (.int 0), none, none], [], mjH I X)) (fun _ => rfl) ?_
      rw [sdF_ok q1 q2]
      obtain ⟨nn, hnn, rfl⟩ := mIn_20 q1
      rw [nI_clamp (by omega)]
      obtain ⟨n, x, hx, J, rfl, h1⟩ := m_sd_loop (d := d) (X := X) (z := z) (q := q) hb hnn nn 0 I z 0 0 0 none none (by omega) eqO.rf
      exact ⟨n, _, hx, _, rfl, J, rfl, h1, rfl⟩
    · show mjGo _ _ 28 _ _
      rw [sdF_q (Decidable.not_not.mp q2)]
      exact mjGo.ret 2 (fun _ => rfl) ⟨_, rfl, I, rfl, eqO.rf, rfl⟩
theorem sdF_MB {I J : Nat → Nat → Int32} {i kd wn np n9 lw : Nat} {m z q : Int32} (e49 : J 49 = I 49) (e50 : J 50 = I 50) (eD : mD J = mD I) : sdF J np n9 i kd wn lw m z q = sdF I np n9 i kd wn lw m z q := by
  unfold sdF
  rw [e49, e50, eD]
def xp_seededN (I : Nat → Nat → Int32) (k m z q : Int32) : Int32 := (-1)
theorem c_xp_seededN (d : Nat) {I : Nat → Nat → Int32} {X : MX} (k m z q : Int32) {nl : Nat} (hn : nl ≤ 6) (h16 : I 1 6 = nI nl) (hno : mIn k 0 (nI nl - 1) = 0) : mjEv (d + 6) nyX11_seeded [.ref 0, .int k, .int m, .int z, .int q] (mjH I X) (.inl (some (.int (xp_seededN I k m z q)))) (mjH I X) := by
  refine mjEv.of ?_
  show mjGo (d + 6) nyX11_seeded 0 ([some (.ref 0), some (.int k), some (.int m), some (.int z), some (.int q), none, none, none, none, none, none, none, none], [], mjH I X) _
  refine mjGo.run 2 (pc' := 2) (F' := ([some (.ref 0), some (.int k), some (.int m), some (.int z), some (.int q), none, none, none, none, none, none, none, none], [.int k, .ref 0], mjH I X)) (fun _ => rfl) ?_
  refine mjGo.call (n := 2) (j := 91) (nx := 5) (o := some (.null)) (h' := mjH I X) (fun _ => rfl) (c_lkNo _ hn h16 hno) ?_
  show mjGo _ _ 5 ([some (.ref 0), some (.int k), some (.int m), some (.int z), some (.int q), none, none, none, none, none, none, none, none], [.null], mjH I X) _
  have e9 : xp_seededN I k m z q = (-1) := by unfold xp_seededN; rfl
  rw [e9]
  exact mjGo.ret 5 (fun _ => rfl) rfl
def mp_seededN (I : Nat → Nat → Int32) (k m z q : Int32) : Int32 := (-1)
theorem c_mp_seededN (d : Nat) {I : Nat → Nat → Int32} {X : MX} (k m z q : Int32) {nl : Nat} (h44 : I 44 1 = nI nl) (hno : mIn k 0 (nI nl - 1) = 0) : mjEv (d + 4) nyX12_seeded [.ref 43, .int k, .int m, .int z, .int q] (mjH I X) (.inl (some (.int (mp_seededN I k m z q)))) (mjH I X) := by
  refine mjEv.of ?_
  show mjGo (d + 4) nyX12_seeded 0 ([some (.ref 43), some (.int k), some (.int m), some (.int z), some (.int q), none, none, none, none, none, none, none], [], mjH I X) _
  refine mjGo.run 2 (pc' := 2) (F' := ([some (.ref 43), some (.int k), some (.int m), some (.int z), some (.int q), none, none, none, none, none, none, none], [.int k, .ref 43], mjH I X)) (fun _ => rfl) ?_
  refine mjGo.call (n := 2) (j := 138) (nx := 5) (o := some (.int 0)) (h' := mjH I X) (fun _ => rfl) ((by have q := c_mIsL (d + 2) k (I := I) (X := X); rw [mIsL, h44, hno] at q; exact q)) ?_
  show mjGo _ _ 5 ([some (.ref 43), some (.int k), some (.int m), some (.int z), some (.int q), none, none, none, none, none, none, none], [.int 0], mjH I X) _
  have e9 : mp_seededN I k m z q = (-1) := by unfold mp_seededN; rfl
  rw [e9]
  exact mjGo.ret 3 (fun _ => rfl) rfl
theorem k_seeded (d : Nat) (k m z q : Int32) : CALL (d + 12) nyX11_seeded nyX12_seeded [.ref 0, .int k, .int m, .int z, .int q] [.ref 43, .int k, .int m, .int z, .int q] := CALL.scr fun I X hR => by
  obtain ⟨np, n9, nl, lw, ho, ⟨hn, h16, h44⟩, ⟨hlw, h18, h443⟩, hlk⟩ := hR.lk
  by_cases h : mIn k 0 (nI nl - 1) = 0
  · refine ⟨_, ⟨I, X, c_xp_seededN (d + 6) k m z q hn h16 h, eqN.rf, xle.rf, grw.rf⟩, fun J Y hJ e hx => ?_⟩
    have q := c_mp_seededN (d + 8) (I := J) (X := Y) k m z q ((e 44 1 rfl (by omega)).trans h44) h
    exact ⟨J, q, eqN.rf⟩
  · obtain ⟨i, hi, rfl⟩ := mIn_no h (by omega)
    obtain ⟨a, kd, wn, hl⟩ := hlk i hi
    have hb : MB I i kd wn np n9 nl lw := ⟨ho.2.2.2.2.2.2, hn, h44, hi, hl.2.2.2.2.2.2.2.2.1, hl.2.2.2.2.2.2.1, hl.2.2.2.2.2.2.2.1, h443⟩
    obtain ⟨o, h9, hev, J, Y, rfl, hJ, hY, rfl⟩ := x_seeded (d + 6) m z q ho hn h16 hi hl hlw h18
    refine ⟨_, ⟨J, Y, hev, eqN.of hJ scz_scr, xle_of hY, grw_of hY⟩, fun J Y hRJ e hx => ?_⟩
    obtain ⟨hb2, e49, e50, eD⟩ := hb.eq e (by omega)
    obtain ⟨o, h9, hev, L, rfl, hL, rfl⟩ := m_seeded (d + 8) m z q (X := Y) hb2
    rw [sdF_MB e49 e50 eD] at hev
    exact ⟨L, hev, eqN.of hL scd_scr⟩
