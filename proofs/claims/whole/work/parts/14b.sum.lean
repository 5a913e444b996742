/-! sum -/
def smV (c : Nat → Int32) : Nat → Nat → Int32 → Int32
  | 0, _, s => s
  | k + 1, j, s => smV c k (j + 1) (s + c j)
def xSumL (I : Nat → Nat → Int32) : Nat → Nat → Int32 → Int32
  | 0, j, s => s
  | k + 1, j, s => xSumL I k (j + 1) (s + (I 23 j))
theorem l_xSumL (d : Nat) {I : Nat → Nat → Int32} {X : MX} {nl : Nat} (hn : nl ≤ 6) (h16 : I 1 6 = nI nl) : ∀ (k j : Nat) (s : Int32), j + k = nl → mjGo d nyX11_sum 8 ([some (.ref 0), some (.int s), some (.int (nI j))], [], mjH I X) (fun x => x = (.inl (some (.int (xSumL I k j s))), mjH I X)) := by
  intro k
  induction k with
  | zero =>
    intro j s hj
    refine mjGo.run 3 (pc' := (bif decide (6 ≤ (nI j)) then 40 else 14)) (F' := ([some (.ref 0), some (.int s), some (.int (nI j))], [], mjH I X)) (fun _ => rfl) ?_
    refine mjGo.br (fun q1 => ?_) (fun q1 => ?_)
    · show mjGo _ _ 40 _ _
      have e9 : xSumL I 0 j s = s := by first | (rw [xSumL]; done) | rw [xSumL, if_pos q1]
      rw [e9]
      exact mjGo.ret 2 (fun _ => rfl) rfl
    · show mjGo _ _ 14 _ _
      refine mjGo.run 4 (pc' := 22) (F' := ([some (.ref 0), some (.int s), some (.int (nI j))], [.int (I 1 6), .int (nI j)], mjH I X)) (fun _ => rfl) ?_
      refine mjGo.run 1 (pc' := (bif decide ((I 1 6) ≤ (nI j)) then 40 else 25)) (F' := ([some (.ref 0), some (.int s), some (.int (nI j))], [], mjH I X)) (fun _ => rfl) ?_
      refine mjGo.brT (show (I 1 6) ≤ (nI j) by rw [h16, nI_leI (by omega) (by omega)]; omega) ?_
      show mjGo _ _ 40 _ _
      have e9 : xSumL I 0 j s = s := by first | (rw [xSumL]; done) | rw [xSumL, if_neg q1]
      rw [e9]
      exact mjGo.ret 2 (fun _ => rfl) rfl
  | succ k ih =>
    intro j s hj
    refine mjGo.run 2 (pc' := 11) (F' := ([some (.ref 0), some (.int s), some (.int (nI j))], [.int 6, .int (nI j)], mjH I X)) (fun _ => rfl) ?_
    refine mjGo.run 1 (pc' := (bif decide (6 ≤ (nI j)) then 40 else 14)) (F' := ([some (.ref 0), some (.int s), some (.int (nI j))], [], mjH I X)) (fun _ => rfl) ?_
    refine mjGo.brF (show ¬ 6 ≤ (nI j) by rw [show (6 : Int32) = nI 6 from rfl, nI_leI (by omega) (by omega)]; omega) ?_
    show mjGo _ _ 14 _ _
    refine mjGo.run 4 (pc' := 22) (F' := ([some (.ref 0), some (.int s), some (.int (nI j))], [.int (I 1 6), .int (nI j)], mjH I X)) (fun _ => rfl) ?_
    refine mjGo.run 1 (pc' := (bif decide ((I 1 6) ≤ (nI j)) then 40 else 25)) (F' := ([some (.ref 0), some (.int s), some (.int (nI j))], [], mjH I X)) (fun _ => rfl) ?_
    refine mjGo.brF (show ¬ (I 1 6) ≤ (nI j) by rw [h16, nI_leI (by omega) (by omega)]; omega) ?_
    show mjGo _ _ 25 _ _
    refine mjGo.run 4 (pc' := 31) (F' := ([some (.ref 0), some (.int s), some (.int (nI j))], [.int (nI j), .ref 23, .int s], mjH I X)) (fun _ => rfl) ?_
    refine mjGo.op (pc' := 32) (F' := ([some (.ref 0), some (.int s), some (.int (nI j))], [.int (I 23 j), .int s], mjH I X)) (o := mjiald 32) rfl (fun _ => mjald_n (n := 6) (by omega) (by decide) (rfl) (rfl)) ?_
    refine mjGo.run 4 (pc' := 8) (F' := ([some (.ref 0), some (.int (s + (I 23 j))), some (.int ((nI j) + 1))], [], mjH I X)) (fun _ => rfl) ?_
    have e9 : xSumL I (k + 1) j s = xSumL I k (j + 1) (s + (I 23 j)) := by first | (rw [xSumL]; done) | rw [xSumL]
    rw [e9]
    have k9 := ih (j + 1) (s + (I 23 j)) (by omega)
    rw [← nI_1] at k9
    exact k9
theorem xSum_eq {I : Nat → Nat → Int32} {c : Nat → Int32} {nl : Nat} (h : ∀ i, i < nl → I 23 i = c i) : ∀ (k j : Nat) (s : Int32), j + k = nl → xSumL I k j s = smV c k j s
  | 0, _, _, _ => rfl
  | k + 1, j, s, e => by rw [xSumL, smV, h j (by omega), xSum_eq h k (j + 1) _ (by omega)]
theorem c_xCosts (d : Nat) {np n9 nl lw : Nat} {I : Nat → Nat → Int32} {X : MX} (ho : xOk I np n9) (hn : nl ≤ 6) (h16 : I 1 6 = nI nl) (hlw : lw < 3) (h18 : I 1 8 = nI lw) (h443 : I 44 3 = nI lw) (hlk : ∀ i, i < nl → ∃ a kd wn, lkR I X 1 44 i a kd wn) : mjEvP (d + 7) nyX11_countCosts [.ref 0] (mjH I X) (fun o h2 => o = none ∧ ∃ J Y, h2 = mjH J Y ∧ eqN (X.2.2.2.1 + 75) I J ∧ (Y = X ∨ Y = mkX X) ∧ ∀ i, i < nl → J 23 i = cst I np n9 i) := by
  refine mjEvP.of ?_
  refine mjGo.run 2 (pc' := 2) (F' := ([some (.ref 0), some (.int (nI 0)), none], [], mjH I X)) (fun _ => rfl) ?_
  obtain ⟨n, x, hx, J, Y, rfl, h1, h2, h3⟩ := x_cc_loop (d := d) ho hn h16 hlw h18 h443 hlk nl 0 I X none (by omega) eqN.rf (Or.inl rfl) (fun i hi => absurd hi (Nat.not_lt_zero _))
  exact ⟨n, _, hx, none, rfl, rfl, J, Y, rfl, h1, h2, h3⟩
theorem x_sum (d : Nat) {np n9 nl lw : Nat} {I : Nat → Nat → Int32} {X : MX} (ho : xOk I np n9) (hn : nl ≤ 6) (h16 : I 1 6 = nI nl) (hlw : lw < 3) (h18 : I 1 8 = nI lw) (h443 : I 44 3 = nI lw) (hlk : ∀ i, i < nl → ∃ a kd wn, lkR I X 1 44 i a kd wn) : mjEvP (d + 8) nyX11_sum [.ref 0] (mjH I X) (fun o h2 => ∃ J Y, h2 = mjH J Y ∧ eqN (X.2.2.2.1 + 75) I J ∧ (Y = X ∨ Y = mkX X) ∧ o = some (.int (smV (cst I np n9) nl 0 0))) := by
  refine mjEvP.of ?_
  show mjGo (d + 8) nyX11_sum 0 ([some (.ref 0), none, none], [], mjH I X) _
  refine mjGo.run 1 (pc' := 1) (F' := ([some (.ref 0), none, none], [.ref 0], mjH I X)) (fun _ => rfl) ?_
  obtain ⟨o9, h9, hev, rfl, J, Y, rfl, hJ, hY, hc⟩ := c_xCosts d (X := X) ho hn h16 hlw h18 h443 hlk
  refine mjGo.call (n := 1) (j := 116) (nx := 4) (o := none) (h' := mjH J Y) (fun _ => rfl) (hev) ?_
  show mjGo _ _ 4 ([some (.ref 0), none, none], [], mjH J Y) _
  refine mjGo.run 4 (pc' := 8) (F' := ([some (.ref 0), some (.int 0), some (.int 0)], [], mjH J Y)) (fun _ => rfl) ?_
  have hl := l_xSumL (d + 8) (X := Y) hn ((hJ 1 6 rfl (by omega)).trans h16) nl 0 0 (by omega)
  obtain ⟨n, x, hx, rfl⟩ := hl
  rw [xSum_eq hc nl 0 0 (by omega)] at hx
  exact ⟨n, _, hx, _, rfl, J, Y, rfl, hJ, hY, rfl⟩
theorem cst_MB {I0 I : Nat → Nat → Int32} {i kd wn np n9 nl lw : Nat} (hb : MB I0 i kd wn np n9 nl lw) (e49 : I 49 = I0 49) (e50 : I 50 = I0 50) (eD : mD I = mD I0) : dyCost (mD I np n9 (nI kd) (I 49 i) (I 50 i) wn (nI lw)) = cst I0 np n9 i := by
  obtain ⟨_, _, _, _, m48, m51, hwn, m443⟩ := hb
  unfold cst
  rw [e49, e50, eD, m48, m51, m443, nI_clamp (by omega)]
theorem m_sum_loop {d np n9 nl lw : Nat} {I0 : Nat → Nat → Int32} {X : MX} (hn : nl ≤ 6) (h440 : I0 44 1 = nI nl) (hb0 : ∀ i, i < nl → ∃ kd wn, MB I0 i kd wn np n9 nl lw) : ∀ (k j : Nat) (I : Nat → Nat → Int32) (s : Int32), j + k = nl → eqO scd I0 I →
    mjGo (d + 5) nyX12_sum 4 ([some (.ref 43), some (.int s), some (.int (nI j))], [], mjH I X) (fun x => ∃ J, x = (.inl (some (.int (smV (cst I0 np n9) k j s))), mjH J X) ∧ eqO scd I0 J) := by
  intro k
  induction k with
  | zero =>
    intro j I s hj heq
    have h44 : I 44 1 = nI nl := (heq 44 1 rfl).trans h440
    refine mjGo.run 5 (pc' := 11) (F' := ([some (.ref 43), some (.int s), some (.int (nI j))], [.int (I 44 1), .int (nI j)], mjH I X)) (fun _ => rfl) ?_
    refine mjGo.run 1 (pc' := (bif decide ((I 44 1) ≤ (nI j)) then 28 else 14)) (F' := ([some (.ref 43), some (.int s), some (.int (nI j))], [], mjH I X)) (fun _ => rfl) ?_
    refine mjGo.brT (show (I 44 1) ≤ (nI j) by rw [h44, nI_leI (by omega) (by omega)]; omega) ?_
    show mjGo _ _ 28 _ _
    exact mjGo.ret 2 (fun _ => rfl) ⟨I, rfl, heq⟩
  | succ k ih =>
    intro j I s hj heq
    have h44 : I 44 1 = nI nl := (heq 44 1 rfl).trans h440
    obtain ⟨kd, wn, hb⟩ := hb0 j (by omega)
    obtain ⟨hb2, e49, e50, eD⟩ := hb.eq (n := 75) (eqN.of heq scd_scr) (by omega)
    refine mjGo.run 5 (pc' := 11) (F' := ([some (.ref 43), some (.int s), some (.int (nI j))], [.int (I 44 1), .int (nI j)], mjH I X)) (fun _ => rfl) ?_
    refine mjGo.run 1 (pc' := (bif decide ((I 44 1) ≤ (nI j)) then 28 else 14)) (F' := ([some (.ref 43), some (.int s), some (.int (nI j))], [], mjH I X)) (fun _ => rfl) ?_
    refine mjGo.brF (show ¬ (I 44 1) ≤ (nI j) by rw [h44, nI_leI (by omega) (by omega)]; omega) ?_
    show mjGo _ _ 14 _ _
    refine mjGo.run 3 (pc' := 17) (F' := ([some (.ref 43), some (.int s), some (.int (nI j))], [.int (nI j), .ref 43, .int s], mjH I X)) (fun _ => rfl) ?_
    obtain ⟨o9, h9, hev, J, rfl, heJ, hdJ, rfl⟩ := c_mDayOf d (X := X) hb2
    rw [cst_MB hb e49 e50 eD] at hev
    refine mjGo.call (n := 2) (j := 153) (nx := 20) (o := some (.int (cst I0 np n9 j))) (h' := mjH J X) (fun _ => rfl) (hev) ?_
    show mjGo _ _ 20 ([some (.ref 43), some (.int s), some (.int (nI j))], [.int (cst I0 np n9 j), .int s], mjH J X) _
    refine mjGo.run 4 (pc' := 4) (F' := ([some (.ref 43), some (.int (s + (cst I0 np n9 j))), some (.int ((nI j) + 1))], [], mjH J X)) (fun _ => rfl) ?_
    have k9 := ih (j + 1) J (s + cst I0 np n9 j) (by omega) (heq.trans heJ)
    rw [← nI_1] at k9
    exact k9
theorem m_sum (d : Nat) {np n9 nl lw : Nat} {I : Nat → Nat → Int32} {X : MX} (hn : nl ≤ 6) (h44 : I 44 1 = nI nl) (hb : ∀ i, i < nl → ∃ kd wn, MB I i kd wn np n9 nl lw) : mjEvP (d + 5) nyX12_sum [.ref 43] (mjH I X) (fun o h2 => ∃ J, h2 = mjH J X ∧ eqO scd I J ∧ o = some (.int (smV (cst I np n9) nl 0 0))) := by
  refine mjEvP.of ?_
  refine mjGo.run 4 (pc' := 4) (F' := ([some (.ref 43), some (.int 0), some (.int (nI 0))], [], mjH I X)) (fun _ => rfl) ?_
  obtain ⟨n, x, hx, J, rfl, h1⟩ := m_sum_loop (d := d) (X := X) hn h44 hb nl 0 I 0 (by omega) eqO.rf
  exact ⟨n, _, hx, _, rfl, J, rfl, h1, rfl⟩
theorem cst_N {I J : Nat → Nat → Int32} {n np n9 : Nat} (e : eqN n I J) (hn : 75 ≤ n) : cst J np n9 = cst I np n9 := by
  funext i
  unfold cst
  rw [(mD_N e hn).1, e.row (k := 48) (fun _ => rfl) (by omega), e.row (k := 49) (fun _ => rfl) (by omega), e.row (k := 50) (fun _ => rfl) (by omega), e.row (k := 51) (fun _ => rfl) (by omega), e.row (k := 44) (fun _ => rfl) (by omega)]
theorem k_sum (d : Nat) : CALL (d + 12) nyX11_sum nyX12_sum [.ref 0] [.ref 43] := CALL.scr fun I X hR => by
  obtain ⟨np, n9, nl, lw, ho, ⟨hn, h16, h44⟩, ⟨hlw, h18, h443⟩, hlk⟩ := hR.lk
  obtain ⟨o, h9, hev, J, Y, rfl, hJ, hY, rfl⟩ := x_sum (d + 4) (X := X) ho hn h16 hlw h18 h443 hlk
  refine ⟨_, ⟨J, Y, hev, hJ, xle_of hY, grw_of hY⟩, fun J Y hRJ e hx => ?_⟩
  have hb : ∀ i, i < nl → ∃ kd wn, MB J i kd wn np n9 nl lw := fun i hi => by
    obtain ⟨a, kd, wn, hl⟩ := hlk i hi
    have hb : MB I i kd wn np n9 nl lw := ⟨ho.2.2.2.2.2.2, hn, h44, hi, hl.2.2.2.2.2.2.2.2.1, hl.2.2.2.2.2.2.1, hl.2.2.2.2.2.2.2.1, h443⟩
    exact ⟨kd, wn, (hb.eq e (by omega)).1⟩
  obtain ⟨o, h9, hev, L, rfl, hL, rfl⟩ := m_sum (d + 7) (X := Y) hn ((e 44 1 rfl (by omega)).trans h44) hb
  rw [cst_N e (by omega)] at hev
  exact ⟨L, hev, eqN.of hL scd_scr⟩
