/-! rest and count -/
theorem price_bd {l : Nat} (hl : l < 3) : ∀ {m : Nat}, m < 720 → 0 ≤ (mPrice (nI l) (nI m)).toInt ∧ (mPrice (nI l) (nI m)).toInt ≤ 20 := by
  have key : ((List.range 720).all fun m => (List.range 3).all fun l => decide (0 ≤ (mPrice (nI l) (nI m)).toInt ∧ (mPrice (nI l) (nI m)).toInt ≤ 20)) = true := by decide +kernel
  intro m hm
  have h1 := List.all_eq_true.mp key m (List.mem_range.mpr hm)
  have h2 := List.all_eq_true.mp h1 l (List.mem_range.mpr hl)
  exact of_decide_eq_true h2
theorem rest_eq (I : Nat → Nat → Int32) {m w c : Int32} {T : Int} (hp : 0 ≤ (mPrice (I 44 3) m).toInt ∧ (mPrice (I 44 3) m).toInt ≤ 20) (hq : 0 ≤ (w * c).toInt ∧ (w * c).toInt ≤ 540) (hT : T = (mPrice (I 44 3) m).toInt - (w * c).toInt) : ∀ (k j : Nat) (s : Int32), j + k = 13 → mRestL I m w c k j s = if k = 0 ∨ T ≤ j then s else nI (min (T - 1) 12).toNat
  | 0, j, s, h => by
    rw [if_pos (Or.inl rfl)]
    rfl
  | k + 1, j, s, h => by
    have e : (nI j + w * c).toInt = j + (w * c).toInt := by rw [i32_add (by rw [nI_toInt (by omega)]; omega) (by rw [nI_toInt (by omega)]; omega), nI_toInt (by omega)]
    rw [mRestL, rest_eq I hp hq hT k (j + 1) s (by omega), rest_eq I hp hq hT k (j + 1) (nI j) (by omega)]
    by_cases h1 : T ≤ j
    · have h2 : mIsS I m w (nI j) c = 0 := by
        unfold mIsS
        rw [if_pos (by rw [i32_le, e]; omega)]
      rw [if_pos h2, if_pos (by omega), if_pos (by omega)]
    · have h2 : ¬ mIsS I m w (nI j) c = 0 := by
        unfold mIsS
        rw [if_neg (by rw [i32_le, e]; omega)]
        decide
      rw [if_neg h2, if_neg (show ¬ (k + 1 = 0 ∨ T ≤ j) by omega)]
      by_cases h3 : k = 0 ∨ T ≤ (j + 1 : Nat)
      · rw [if_pos h3, show (min (T - 1) 12).toNat = j by omega]
      · rw [if_neg h3]
theorem offer_mul {w c : Int32} (h1 : ¬ w < 0) (h2 : ¬ 60 < w) (h3 : ¬ c < 0) (h4 : ¬ 9 < c) : 0 ≤ (w * c).toInt ∧ (w * c).toInt ≤ 540 := by
  obtain ⟨a, ha, rfl⟩ := nI_of2 (n := 60) (M := 60) (by decide) h1 (Int32.not_lt.mp h2)
  obtain ⟨b, hb, rfl⟩ := nI_of2 (n := 9) (M := 9) (by decide) h3 (Int32.not_lt.mp h4)
  have h5 : ((a : Int) * b) ≤ 60 * 9 := by
    have := Nat.mul_le_mul ha hb
    exact_mod_cast this
  have h6 : (0 : Int) ≤ (a : Int) * b := by exact_mod_cast Nat.zero_le (a * b)
  rw [i32_mul (by rw [nI_toInt (by omega), nI_toInt (by omega)]; omega) (by rw [nI_toInt (by omega), nI_toInt (by omega)]; omega), nI_toInt (by omega), nI_toInt (by omega)]
  omega
theorem k_rest (d : Nat) (m w c : Int32) : CALL (d + 12) nyX11_rest nyX12_rest [.ref 0, .int m, .int w, .int c] [.ref 43, .int m, .int w, .int c] := CALL.pure2 fun I X hR => by
  obtain ⟨lw, hlw, h18, h44⟩ := tR_law hR
  refine ⟨_, _, c_xpRest (d + 10) m w c, c_mpRest (d + 10) m w c, ?_⟩
  unfold xpRest mpRest xOffer
  rw [← xMin_eq]
  by_cases h : xMin m = 0
  · simp [h]
  · rw [if_neg h, if_neg h]
    by_cases h1 : w < 0
    · simp [h1, mIn]
    · by_cases h2 : 60 < w
      · simp [h1, h2, mIn]
      · by_cases h3 : c < 0
        · simp [h1, h2, h3, mIn]
        · by_cases h4 : 9 < c
          · simp [h1, h2, h3, h4, mIn]
          · have hq := offer_mul h1 h2 h3 h4
            have hp : 0 ≤ (mPrice (I 44 3) m).toInt ∧ (mPrice (I 44 3) m).toInt ≤ 20 := by
              obtain ⟨j, hj, rfl⟩ := xMin_n h
              rw [h44]
              exact price_bd hlw hj
            rw [if_neg h1, if_neg h2, if_neg h3, if_neg h4, if_pos (show (1 : Int32) ≠ 0 by decide), if_neg (show ¬ mIn w 0 60 = 0 by unfold mIn; rw [if_neg h1, if_neg h2]; decide), if_pos (show mIn c 0 9 ≠ 0 by unfold mIn; rw [if_neg h3, if_neg h4]; decide), rest_eq I hp hq rfl 13 0 (-4) (by omega), h18, xP_eq hlw h, ← h44]
            have e1 : (mPrice (I 44 3) m - w * c).toInt = (mPrice (I 44 3) m).toInt - (w * c).toInt := i32_sub (by omega) (by omega)
            have e0 : (1 : Int32).toInt = 1 := by decide
            have e2 : (mPrice (I 44 3) m - w * c - 1).toInt = (mPrice (I 44 3) m).toInt - (w * c).toInt - 1 := by rw [i32_sub (by omega) (by omega), e1, e0]
            have e00 : (0 : Int32).toInt = 0 := by decide
            by_cases h5 : (0 : Int32) ≤ mPrice (I 44 3) m - w * c - 1
            · rw [if_pos h5]
              rw [i32_le, e2, e00] at h5
              rw [if_neg (by omega)]
              apply Int32.toInt_inj.mp
              have e12 : (12 : Int32).toInt = 12 := by decide
              rw [i32_min, e2, e12, nI_toInt (by omega)]
              omega
            · rw [if_neg h5]
              rw [i32_le, e2, e00] at h5
              rw [if_pos (by omega)]
def xWalks (I : Nat → Nat → Int32) (n9 : Nat) : Int32 := xWalksL I n9 0 0
theorem c_xWalks (d : Nat) {I : Nat → Nat → Int32} {X : MX} (n9 : Nat) (h5 : n9 ≤ 5) (h15 : I 1 5 = nI n9) : mjEv (d + 1) nyX10_allWalks [.ref 1] (mjH I X) (.inl (some (.int (xWalks I n9)))) (mjH I X) := by
  refine mjEv.of ?_
  show mjGo (d + 1) nyX10_allWalks 0 ([some (.ref 1), none, none], [], mjH I X) _
  refine mjGo.run 4 (pc' := 4) (F' := ([some (.ref 1), some (.int 0), some (.int 0)], [], mjH I X)) (fun _ => rfl) ?_
  have e9 : xWalks I n9 = xWalksL I n9 0 0 := by unfold xWalks; rfl
  rw [e9]
  exact l_xWalksL d h5 h15 n9 0 0 (by omega)
def xpCount (I : Nat → Nat → Int32) (n9 : Nat) (q : Int32) : Int32 := if q = 0 then (I 1 5) else (if q = 1 then (I 1 6) else (if q = 2 then (I 1 7) else (if q = 3 then (xWalks I n9) else (if q = 4 then (I 1 8) else (-1)))))
theorem c_xpCount (d : Nat) {I : Nat → Nat → Int32} {X : MX} (n9 : Nat) (q : Int32) (h5 : n9 ≤ 5) (h15 : I 1 5 = nI n9) : mjEv (d + 2) nyX11_count [.ref 0, .int q] (mjH I X) (.inl (some (.int (xpCount I n9 q)))) (mjH I X) := by
  refine mjEv.of ?_
  show mjGo (d + 2) nyX11_count 0 ([some (.ref 0), some (.int q)], [], mjH I X) _
  refine mjGo.run 2 (pc' := (bif decide (q = 0) then 36 else (bif decide (q = 1) then 44 else (bif decide (q = 2) then 52 else (bif decide (q = 3) then 60 else (bif decide (q = 4) then 68 else 76)))))) (F' := ([some (.ref 0), some (.int q)], [], mjH I X)) (fun _ => rfl) ?_
  refine mjGo.br (fun q1 => ?_) (fun q1 => ?_)
  · show mjGo _ _ 36 _ _
    have e9 : xpCount I n9 q = (I 1 5) := by unfold xpCount; rw [if_pos q1]
    rw [e9]
    exact mjGo.ret 4 (fun _ => rfl) rfl
  refine mjGo.br (fun q2 => ?_) (fun q2 => ?_)
  · show mjGo _ _ 44 _ _
    have e9 : xpCount I n9 q = (I 1 6) := by unfold xpCount; rw [if_neg q1, if_pos q2]
    rw [e9]
    exact mjGo.ret 4 (fun _ => rfl) rfl
  refine mjGo.br (fun q3 => ?_) (fun q3 => ?_)
  · show mjGo _ _ 52 _ _
    have e9 : xpCount I n9 q = (I 1 7) := by unfold xpCount; rw [if_neg q1, if_neg q2, if_pos q3]
    rw [e9]
    exact mjGo.ret 4 (fun _ => rfl) rfl
  refine mjGo.br (fun q4 => ?_) (fun q4 => ?_)
  · show mjGo _ _ 60 _ _
    refine mjGo.run 2 (pc' := 64) (F' := ([some (.ref 0), some (.int q)], [.ref 1], mjH I X)) (fun _ => rfl) ?_
    refine mjGo.call (n := 1) (j := 68) (nx := 67) (o := some (.int (xWalks I n9))) (h' := mjH I X) (fun _ => rfl) (c_xWalks d n9 h5 h15) ?_
    show mjGo _ _ 67 ([some (.ref 0), some (.int q)], [.int (xWalks I n9)], mjH I X) _
    have e9 : xpCount I n9 q = (xWalks I n9) := by unfold xpCount; rw [if_neg q1, if_neg q2, if_neg q3, if_pos q4]
    rw [e9]
    exact mjGo.ret 1 (fun _ => rfl) rfl
  refine mjGo.br (fun q5 => ?_) (fun q5 => ?_)
  · show mjGo _ _ 68 _ _
    have e9 : xpCount I n9 q = (I 1 8) := by unfold xpCount; rw [if_neg q1, if_neg q2, if_neg q3, if_neg q4, if_pos q5]
    rw [e9]
    exact mjGo.ret 4 (fun _ => rfl) rfl
  show mjGo _ _ 76 _ _
  have e9 : xpCount I n9 q = (-1) := by unfold xpCount; rw [if_neg q1, if_neg q2, if_neg q3, if_neg q4, if_neg q5]
  rw [e9]
  exact mjGo.ret 2 (fun _ => rfl) rfl
def mWalksL (I : Nat → Nat → Int32) (q : Int32) : Nat → Nat → Int32 → Int32
  | 0, j, s => s
  | k + 1, j, s => mWalksL I q k (j + 1) (s + (I 46 j))
theorem l_mWalksL (d : Nat) {I : Nat → Nat → Int32} {X : MX} (q : Int32) {n9 : Nat} (h5 : n9 ≤ 5) (h44 : I 44 0 = nI n9) : ∀ (k j : Nat) (s : Int32), j + k = n9 → mjGo (d + 1) nyX12_count 61 ([some (.ref 43), some (.int q), some (.int s), some (.int (nI j))], [], mjH I X) (fun x => x = (.inl (some (.int (mWalksL I q k j s))), mjH I X)) := by
  intro k
  induction k with
  | zero =>
    intro j s hj
    refine mjGo.run 5 (pc' := 68) (F' := ([some (.ref 43), some (.int q), some (.int s), some (.int (nI j))], [.int (I 44 0), .int (nI j)], mjH I X)) (fun _ => rfl) ?_
    refine mjGo.run 1 (pc' := (bif decide ((I 44 0) ≤ (nI j)) then 86 else 71)) (F' := ([some (.ref 43), some (.int q), some (.int s), some (.int (nI j))], [], mjH I X)) (fun _ => rfl) ?_
    refine mjGo.brT (show (I 44 0) ≤ (nI j) by rw [h44, nI_leI (by omega) (by omega)]; omega) ?_
    show mjGo _ _ 86 _ _
    have e9 : mWalksL I q 0 j s = s := by first | (rw [mWalksL]; done) | rw [mWalksL]
    rw [e9]
    exact mjGo.ret 2 (fun _ => rfl) rfl
  | succ k ih =>
    intro j s hj
    refine mjGo.run 5 (pc' := 68) (F' := ([some (.ref 43), some (.int q), some (.int s), some (.int (nI j))], [.int (I 44 0), .int (nI j)], mjH I X)) (fun _ => rfl) ?_
    refine mjGo.run 1 (pc' := (bif decide ((I 44 0) ≤ (nI j)) then 86 else 71)) (F' := ([some (.ref 43), some (.int q), some (.int s), some (.int (nI j))], [], mjH I X)) (fun _ => rfl) ?_
    refine mjGo.brF (show ¬ (I 44 0) ≤ (nI j) by rw [h44, nI_leI (by omega) (by omega)]; omega) ?_
    show mjGo _ _ 71 _ _
    refine mjGo.run 4 (pc' := 77) (F' := ([some (.ref 43), some (.int q), some (.int s), some (.int (nI j))], [.int (nI j), .ref 46, .int s], mjH I X)) (fun _ => rfl) ?_
    refine mjGo.op (pc' := 78) (F' := ([some (.ref 43), some (.int q), some (.int s), some (.int (nI j))], [.int (I 46 j), .int s], mjH I X)) (o := mjiald 78) rfl (fun _ => mjald_n (n := 5) (by omega) (by decide) (rfl) (rfl)) ?_
    refine mjGo.run 4 (pc' := 61) (F' := ([some (.ref 43), some (.int q), some (.int (s + (I 46 j))), some (.int ((nI j) + 1))], [], mjH I X)) (fun _ => rfl) ?_
    have e9 : mWalksL I q (k + 1) j s = mWalksL I q k (j + 1) (s + (I 46 j)) := by first | (rw [mWalksL]; done) | rw [mWalksL]
    rw [e9]
    have k9 := ih (j + 1) (s + (I 46 j)) (by omega)
    rw [← nI_1] at k9
    exact k9
def mpCount (I : Nat → Nat → Int32) (n9 : Nat) (q : Int32) : Int32 := if q = 0 then (I 44 0) else (if q = 1 then (I 44 1) else (if q = 2 then (I 44 2) else (if q = 3 then mWalksL I q n9 0 0 else (if q = 4 then (I 44 3) else (-1)))))
theorem c_mpCount (d : Nat) {I : Nat → Nat → Int32} {X : MX} (n9 : Nat) (q : Int32) (h5 : n9 ≤ 5) (h44 : I 44 0 = nI n9) : mjEv (d + 2) nyX12_count [.ref 43, .int q] (mjH I X) (.inl (some (.int (mpCount I n9 q)))) (mjH I X) := by
  refine mjEv.of ?_
  show mjGo (d + 2) nyX12_count 0 ([some (.ref 43), some (.int q), none, none], [], mjH I X) _
  refine mjGo.run 2 (pc' := (bif decide (q = 0) then 36 else (bif decide (q = 1) then 43 else (bif decide (q = 2) then 50 else (bif decide (q = 3) then 57 else (bif decide (q = 4) then 88 else 95)))))) (F' := ([some (.ref 43), some (.int q), none, none], [], mjH I X)) (fun _ => rfl) ?_
  refine mjGo.br (fun q1 => ?_) (fun q1 => ?_)
  · show mjGo _ _ 36 _ _
    have e9 : mpCount I n9 q = (I 44 0) := by unfold mpCount; rw [if_pos q1]
    rw [e9]
    exact mjGo.ret 5 (fun _ => rfl) rfl
  refine mjGo.br (fun q2 => ?_) (fun q2 => ?_)
  · show mjGo _ _ 43 _ _
    have e9 : mpCount I n9 q = (I 44 1) := by unfold mpCount; rw [if_neg q1, if_pos q2]
    rw [e9]
    exact mjGo.ret 5 (fun _ => rfl) rfl
  refine mjGo.br (fun q3 => ?_) (fun q3 => ?_)
  · show mjGo _ _ 50 _ _
    have e9 : mpCount I n9 q = (I 44 2) := by unfold mpCount; rw [if_neg q1, if_neg q2, if_pos q3]
    rw [e9]
    exact mjGo.ret 5 (fun _ => rfl) rfl
  refine mjGo.br (fun q4 => ?_) (fun q4 => ?_)
  · show mjGo _ _ 57 _ _
    refine mjGo.run 4 (pc' := 61) (F' := ([some (.ref 43), some (.int q), some (.int 0), some (.int 0)], [], mjH I X)) (fun _ => rfl) ?_
    have e9 : mpCount I n9 q = mWalksL I q n9 0 0 := by unfold mpCount; rw [if_neg q1, if_neg q2, if_neg q3, if_pos q4]
    rw [e9]
    exact l_mWalksL (d + 1) q h5 h44 n9 0 0 (by omega)
  refine mjGo.br (fun q5 => ?_) (fun q5 => ?_)
  · show mjGo _ _ 88 _ _
    have e9 : mpCount I n9 q = (I 44 3) := by unfold mpCount; rw [if_neg q1, if_neg q2, if_neg q3, if_neg q4, if_pos q5]
    rw [e9]
    exact mjGo.ret 5 (fun _ => rfl) rfl
  show mjGo _ _ 95 _ _
  have e9 : mpCount I n9 q = (-1) := by unfold mpCount; rw [if_neg q1, if_neg q2, if_neg q3, if_neg q4, if_neg q5]
  rw [e9]
  exact mjGo.ret 2 (fun _ => rfl) rfl
theorem walks_eq (I : Nat → Nat → Int32) {q : Int32} (h : I 3 = I 46) : ∀ (k j : Nat) (s : Int32), xWalksL I k j s = mWalksL I q k j s
  | 0, _, _ => rfl
  | k + 1, j, s => by rw [xWalksL, mWalksL, walks_eq I h k (j + 1) _, h]
theorem tR_cnt {I : Nat → Nat → Int32} {X : MX} (h : RI I X) : I 1 5 = I 44 0 ∧ I 1 6 = I 44 1 ∧ I 1 7 = I 44 2 ∧ I 1 8 = I 44 3 := by
  obtain ⟨⟨_, _, _, _, h1, h2, h3, h4, _⟩, _⟩ := h
  exact ⟨h1.1.trans h1.2.symm, h2.1.trans h2.2.symm, h3.1.trans h3.2.symm, h4.1.trans h4.2.symm⟩
theorem k_count (d : Nat) (q : Int32) : CALL (d + 12) nyX11_count nyX12_count [.ref 0, .int q] [.ref 43, .int q] := CALL.pure2 fun I X hR => by
  obtain ⟨n9, h5, h15, h44⟩ := tR_has hR
  obtain ⟨r2, r3, r4, r6⟩ := tR_rows hR
  obtain ⟨c5, c6, c7, c8⟩ := tR_cnt hR
  refine ⟨_, _, c_xpCount (d + 10) n9 q h5 h15, c_mpCount (d + 10) n9 q h5 h44, ?_⟩
  unfold xpCount mpCount xWalks
  rw [c5, c6, c7, c8, walks_eq I (q := q) r3 n9 0 0]
