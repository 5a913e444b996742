/-! calls that read alone -/
theorem tR_law {I : Nat → Nat → Int32} {X : MX} (h : RI I X) : ∃ lw, lw < 3 ∧ I 1 8 = nI lw ∧ I 44 3 = nI lw := by
  obtain ⟨⟨_, _, _, lw, _, _, _, h4, _, _, _, _, h9, _⟩, _⟩ := h
  exact ⟨lw, h9, h4.1, h4.2⟩
theorem xMin_eq (m : Int32) : xMin m = mMin m := rfl
theorem xMin_n {m : Int32} (h : xMin m ≠ 0) : ∃ j, j < 720 ∧ m = nI j := by
  unfold xMin at h
  split at h
  · exact absurd rfl h
  · rename_i h1
    split at h
    · exact absurd rfl h
    · rename_i h2
      obtain ⟨j, hj, e⟩ := nI_of2 (n := 719) (M := 719) (by decide) h1 (Int32.not_lt.mp h2)
      exact ⟨j, by omega, e⟩
theorem xMin_1 {m : Int32} (h : xMin m ≠ 0) : xMin m = 1 := (z_xMin m).resolve_left h
theorem xP_eq {m : Int32} {lw : Nat} (hl : lw < 3) (h : xMin m ≠ 0) : xPrice m (nI lw) = mPrice (nI lw) m := by
  obtain ⟨j, hj, rfl⟩ := xMin_n h
  exact xPrice_eq hl hj
theorem mIn_n {v : Int32} {n : Nat} (hn : n < 2 ^ 31) (h : mIn v 0 (nI n) ≠ 0) : ∃ j, j ≤ n ∧ v = nI j := by
  unfold mIn at h
  split at h
  · exact absurd rfl h
  · rename_i h1
    split at h
    · exact absurd rfl h
    · rename_i h2
      exact nI_of2 (nI_toInt hn) h1 (Int32.not_lt.mp h2)
theorem mIn_no {v : Int32} {n : Nat} (h : mIn v 0 (nI n - 1) ≠ 0) (hn : n < 2 ^ 31) : ∃ j, j < n ∧ v = nI j := by
  cases n with
  | zero =>
    exfalso
    unfold mIn at h
    split at h
    · exact absurd rfl h
    · rename_i h1
      split at h
      · exact absurd rfl h
      · rename_i h2
        rw [i32_lt] at h1 h2
        have e0 : (0 : Int32).toInt = 0 := by decide
        have e1 : (nI 0 - 1).toInt = -1 := by decide
        omega
  | succ n =>
    rw [nI_pred] at h
    obtain ⟨j, hj, e⟩ := mIn_n (by omega) h
    exact ⟨j, by omega, e⟩
theorem mIn_yes {n j : Nat} (hj : j < n) (hn : n < 2 ^ 31) : mIn (nI j) 0 (nI n - 1) = 1 := by
  obtain ⟨n, rfl⟩ : ∃ k, n = k + 1 := ⟨n - 1, by omega⟩
  rw [nI_pred]
  unfold mIn
  rw [if_neg (nI_pos (by omega)), if_neg (by rw [nI_ltI (by omega) (by omega)]; omega)]
theorem xHas_n {w : Int32} {n : Nat} (hn : n ≤ 5) (h : xHas (nI n) w ≠ 0) : ∃ j, j < n ∧ w = nI j := by
  unfold xHas at h
  split at h
  · exact absurd rfl h
  · rename_i h1
    split at h
    · exact absurd rfl h
    · split at h
      · exact absurd rfl h
      · rename_i h3
        obtain ⟨j, hj, rfl⟩ := nI_of h1
        rw [nI_leI (by omega) hj] at h3
        exact ⟨j, by omega, rfl⟩
theorem has_eq {n : Nat} {w : Int32} (hn : n ≤ 5) : xHas (nI n) w = mIn w 0 (nI n - 1) := by
  by_cases h : xHas (nI n) w = 0
  · by_cases h2 : mIn w 0 (nI n - 1) = 0
    · rw [h, h2]
    · obtain ⟨j, hj, rfl⟩ := mIn_no h2 (by omega)
      rw [xHas_1 hj hn] at h
      exact absurd h (by decide)
  · obtain ⟨j, hj, rfl⟩ := xHas_n hn h
    rw [xHas_1 hj hn, mIn_yes hj (by omega)]
theorem mjin_has {w : Int32} {n : Nat} (hn : n ≤ 5) (h : xHas (nI n) w ≠ 0) : mjin w 5 = true := by
  obtain ⟨j, hj, rfl⟩ := xHas_n hn h
  exact mjin_n (by omega) (by omega)
theorem mjin_mIn {w : Int32} {n N : Nat} (hn : n ≤ N) (hN : N < 2 ^ 31) (h : mIn w 0 (nI n - 1) ≠ 0) : mjin w N = true := by
  obtain ⟨j, hj, rfl⟩ := mIn_no h (by omega)
  exact mjin_n (by omega) hN
def mIsW (I : Nat → Nat → Int32) (w : Int32) : Int32 := (mIn w 0 ((I 44 0) - 1))
theorem z_mIsW (I : Nat → Nat → Int32) (w : Int32) : mIsW I w = 0 ∨ mIsW I w = 1 := by
  unfold mIsW
  repeat' split
  all_goals first | exact Or.inl rfl | exact Or.inr rfl | exact z_mIn _ _ _ | exact z_mMin _ | exact z_mClock _ | exact z_xMin _ | exact z_xShelf _ | exact z_xOffer _ _ _ | exact z_xDigit _ | exact z_xC4 | exact z_xC0
theorem c_mIsW (d : Nat) {I : Nat → Nat → Int32} {X : MX} (w : Int32) : mjEv (d + 1) nyX12_isWork [.ref 43, .int w] (mjH I X) (.inl (some (.int (mIsW I w)))) (mjH I X) := by
  refine mjEv.of ?_
  show mjGo (d + 1) nyX12_isWork 0 ([some (.ref 43), some (.int w)], [], mjH I X) _
  refine mjGo.run 8 (pc' := 10) (F' := ([some (.ref 43), some (.int w)], [.int ((I 44 0) - 1), .int 0, .int w], mjH I X)) (fun _ => rfl) ?_
  refine mjGo.call (n := 3) (j := 132) (nx := 13) (o := some (.int (mIn w 0 ((I 44 0) - 1)))) (h' := mjH I X) (fun _ => rfl) (c_mIn d w 0 ((I 44 0) - 1) _) ?_
  show mjGo _ _ 13 ([some (.ref 43), some (.int w)], [.int (mIn w 0 ((I 44 0) - 1))], mjH I X) _
  have e9 : mIsW I w = (mIn w 0 ((I 44 0) - 1)) := by unfold mIsW; rfl
  rw [e9]
  exact mjGo.zret rfl (by first | exact z_mIn _ _ _ | exact z_mMin _ | exact z_mClock _ | exact z_xMin _ | exact z_xShelf _ | exact z_xOffer _ _ _ | exact z_xDigit _ | exact z_xC4 | exact z_xC0 | exact z_mIsW _ _) rfl
def mIsL (I : Nat → Nat → Int32) (k : Int32) : Int32 := (mIn k 0 ((I 44 1) - 1))
theorem z_mIsL (I : Nat → Nat → Int32) (k : Int32) : mIsL I k = 0 ∨ mIsL I k = 1 := by
  unfold mIsL
  repeat' split
  all_goals first | exact Or.inl rfl | exact Or.inr rfl | exact z_mIn _ _ _ | exact z_mMin _ | exact z_mClock _ | exact z_xMin _ | exact z_xShelf _ | exact z_xOffer _ _ _ | exact z_xDigit _ | exact z_xC4 | exact z_xC0 | exact z_mIsW _ _
theorem c_mIsL (d : Nat) {I : Nat → Nat → Int32} {X : MX} (k : Int32) : mjEv (d + 1) nyX12_isLooker [.ref 43, .int k] (mjH I X) (.inl (some (.int (mIsL I k)))) (mjH I X) := by
  refine mjEv.of ?_
  show mjGo (d + 1) nyX12_isLooker 0 ([some (.ref 43), some (.int k)], [], mjH I X) _
  refine mjGo.run 8 (pc' := 10) (F' := ([some (.ref 43), some (.int k)], [.int ((I 44 1) - 1), .int 0, .int k], mjH I X)) (fun _ => rfl) ?_
  refine mjGo.call (n := 3) (j := 132) (nx := 13) (o := some (.int (mIn k 0 ((I 44 1) - 1)))) (h' := mjH I X) (fun _ => rfl) (c_mIn d k 0 ((I 44 1) - 1) _) ?_
  show mjGo _ _ 13 ([some (.ref 43), some (.int k)], [.int (mIn k 0 ((I 44 1) - 1))], mjH I X) _
  have e9 : mIsL I k = (mIn k 0 ((I 44 1) - 1)) := by unfold mIsL; rfl
  rw [e9]
  exact mjGo.zret rfl (by first | exact z_mIn _ _ _ | exact z_mMin _ | exact z_mClock _ | exact z_xMin _ | exact z_xShelf _ | exact z_xOffer _ _ _ | exact z_xDigit _ | exact z_xC4 | exact z_xC0 | exact z_mIsW _ _ | exact z_mIsL _ _) rfl
def xpPrice (I : Nat → Nat → Int32) (m : Int32) : Int32 := if (xMin m) = 0 then (-1) else (xPrice m (I 1 8))
theorem c_xpPrice (d : Nat) {I : Nat → Nat → Int32} {X : MX} (m : Int32) : mjEv (d + 1) nyX11_price [.ref 0, .int m] (mjH I X) (.inl (some (.int (xpPrice I m)))) (mjH I X) := by
  refine mjEv.of ?_
  show mjGo (d + 1) nyX11_price 0 ([some (.ref 0), some (.int m)], [], mjH I X) _
  refine mjGo.run 1 (pc' := 1) (F' := ([some (.ref 0), some (.int m)], [.int m], mjH I X)) (fun _ => rfl) ?_
  refine mjGo.call (n := 1) (j := 69) (nx := 4) (o := some (.int (xMin m))) (h' := mjH I X) (fun _ => rfl) (c_xMin d m _) ?_
  show mjGo _ _ 4 ([some (.ref 0), some (.int m)], [.int (xMin m)], mjH I X) _
  refine mjGo.run 1 (pc' := (bif decide ((xMin m) = 0) then 21 else 7)) (F' := ([some (.ref 0), some (.int m)], [], mjH I X)) (fun _ => rfl) ?_
  refine mjGo.br (fun q1 => ?_) (fun q1 => ?_)
  · show mjGo _ _ 21 _ _
    have e9 : xpPrice I m = (-1) := by unfold xpPrice; rw [if_pos q1]
    rw [e9]
    exact mjGo.ret 2 (fun _ => rfl) rfl
  · show mjGo _ _ 7 _ _
    refine mjGo.run 4 (pc' := 15) (F' := ([some (.ref 0), some (.int m)], [.int (I 1 8), .int m], mjH I X)) (fun _ => rfl) ?_
    refine mjGo.call (n := 2) (j := 19) (nx := 18) (o := some (.int (xPrice m (I 1 8)))) (h' := mjH I X) (fun _ => rfl) (c_xPrice d m (I 1 8) _) ?_
    show mjGo _ _ 18 ([some (.ref 0), some (.int m)], [.int (xPrice m (I 1 8))], mjH I X) _
    have e9 : xpPrice I m = (xPrice m (I 1 8)) := by unfold xpPrice; rw [if_neg q1]
    rw [e9]
    exact mjGo.ret 2 (fun _ => rfl) rfl
def mpPrice (I : Nat → Nat → Int32) (m : Int32) : Int32 := if (mMin m) = 0 then (-1) else (mPrice (I 44 3) m)
theorem c_mpPrice (d : Nat) {I : Nat → Nat → Int32} {X : MX} (m : Int32) : mjEv (d + 2) nyX12_price [.ref 43, .int m] (mjH I X) (.inl (some (.int (mpPrice I m)))) (mjH I X) := by
  refine mjEv.of ?_
  show mjGo (d + 2) nyX12_price 0 ([some (.ref 43), some (.int m)], [], mjH I X) _
  refine mjGo.run 1 (pc' := 1) (F' := ([some (.ref 43), some (.int m)], [.int m], mjH I X)) (fun _ => rfl) ?_
  refine mjGo.call (n := 1) (j := 133) (nx := 4) (o := some (.int (mMin m))) (h' := mjH I X) (fun _ => rfl) (c_mMin d m _) ?_
  show mjGo _ _ 4 ([some (.ref 43), some (.int m)], [.int (mMin m)], mjH I X) _
  refine mjGo.run 1 (pc' := (bif decide ((mMin m) = 0) then 20 else 7)) (F' := ([some (.ref 43), some (.int m)], [], mjH I X)) (fun _ => rfl) ?_
  refine mjGo.br (fun q1 => ?_) (fun q1 => ?_)
  · show mjGo _ _ 20 _ _
    have e9 : mpPrice I m = (-1) := by unfold mpPrice; rw [if_pos q1]
    rw [e9]
    exact mjGo.ret 2 (fun _ => rfl) rfl
  · show mjGo _ _ 7 _ _
    refine mjGo.run 5 (pc' := 14) (F' := ([some (.ref 43), some (.int m)], [.int m, .int (I 44 3)], mjH I X)) (fun _ => rfl) ?_
    refine mjGo.call (n := 2) (j := 139) (nx := 17) (o := some (.int (mPrice (I 44 3) m))) (h' := mjH I X) (fun _ => rfl) (c_mPrice (d + 1) (I 44 3) m _) ?_
    show mjGo _ _ 17 ([some (.ref 43), some (.int m)], [.int (mPrice (I 44 3) m)], mjH I X) _
    have e9 : mpPrice I m = (mPrice (I 44 3) m) := by unfold mpPrice; rw [if_neg q1]
    rw [e9]
    exact mjGo.ret 2 (fun _ => rfl) rfl
theorem k_price (d : Nat) (m : Int32) : CALL (d + 12) nyX11_price nyX12_price [.ref 0, .int m] [.ref 43, .int m] := CALL.pure2 fun I X hR => by
  obtain ⟨lw, hlw, h18, h44⟩ := tR_law hR
  refine ⟨_, _, c_xpPrice (d + 11) m, c_mpPrice (d + 10) m, ?_⟩
  unfold xpPrice mpPrice
  rw [← xMin_eq, h18, h44]
  split
  · rfl
  · rename_i h
    exact xP_eq hlw h
def xpShared (I : Nat → Nat → Int32) (m n : Int32) : Int32 := if (xMin m) = 0 then (-1) else (if n < 1 then (-1) else (if n ≤ 9 then (xPart (xPrice m (I 1 8)) n) else (-1)))
theorem c_xpShared (d : Nat) {I : Nat → Nat → Int32} {X : MX} (m n : Int32) : mjEv (d + 1) nyX11_shared [.ref 0, .int m, .int n] (mjH I X) (.inl (some (.int (xpShared I m n)))) (mjH I X) := by
  refine mjEv.of ?_
  show mjGo (d + 1) nyX11_shared 0 ([some (.ref 0), some (.int m), some (.int n)], [], mjH I X) _
  refine mjGo.run 1 (pc' := 1) (F' := ([some (.ref 0), some (.int m), some (.int n)], [.int m], mjH I X)) (fun _ => rfl) ?_
  refine mjGo.call (n := 1) (j := 69) (nx := 4) (o := some (.int (xMin m))) (h' := mjH I X) (fun _ => rfl) (c_xMin d m _) ?_
  show mjGo _ _ 4 ([some (.ref 0), some (.int m), some (.int n)], [.int (xMin m)], mjH I X) _
  refine mjGo.run 1 (pc' := (bif decide ((xMin m) = 0) then 18 else 7)) (F' := ([some (.ref 0), some (.int m), some (.int n)], [], mjH I X)) (fun _ => rfl) ?_
  refine mjGo.br (fun q1 => ?_) (fun q1 => ?_)
  · show mjGo _ _ 18 _ _
    have e9 : xpShared I m n = (-1) := by unfold xpShared; rw [if_pos q1]
    rw [e9]
    exact mjGo.ret 2 (fun _ => rfl) rfl
  · show mjGo _ _ 7 _ _
    refine mjGo.run 3 (pc' := (bif decide (n < 1) then 18 else 12)) (F' := ([some (.ref 0), some (.int m), some (.int n)], [], mjH I X)) (fun _ => rfl) ?_
    refine mjGo.br (fun q2 => ?_) (fun q2 => ?_)
    · show mjGo _ _ 18 _ _
      have e9 : xpShared I m n = (-1) := by unfold xpShared; rw [if_neg q1, if_pos q2]
      rw [e9]
      exact mjGo.ret 2 (fun _ => rfl) rfl
    · show mjGo _ _ 12 _ _
      refine mjGo.run 3 (pc' := (bif decide (n ≤ 9) then 20 else 18)) (F' := ([some (.ref 0), some (.int m), some (.int n)], [], mjH I X)) (fun _ => rfl) ?_
      refine mjGo.br (fun q3 => ?_) (fun q3 => ?_)
      · show mjGo _ _ 20 _ _
        refine mjGo.run 4 (pc' := 28) (F' := ([some (.ref 0), some (.int m), some (.int n)], [.int (I 1 8), .int m], mjH I X)) (fun _ => rfl) ?_
        refine mjGo.call (n := 2) (j := 19) (nx := 31) (o := some (.int (xPrice m (I 1 8)))) (h' := mjH I X) (fun _ => rfl) (c_xPrice d m (I 1 8) _) ?_
        show mjGo _ _ 31 ([some (.ref 0), some (.int m), some (.int n)], [.int (xPrice m (I 1 8))], mjH I X) _
        refine mjGo.run 1 (pc' := 32) (F' := ([some (.ref 0), some (.int m), some (.int n)], [.int n, .int (xPrice m (I 1 8))], mjH I X)) (fun _ => rfl) ?_
        refine mjGo.call (n := 2) (j := 37) (nx := 35) (o := some (.int (xPart (xPrice m (I 1 8)) n))) (h' := mjH I X) (fun _ => rfl) (c_xPart d (xPrice m (I 1 8)) n _) ?_
        show mjGo _ _ 35 ([some (.ref 0), some (.int m), some (.int n)], [.int (xPart (xPrice m (I 1 8)) n)], mjH I X) _
        have e9 : xpShared I m n = (xPart (xPrice m (I 1 8)) n) := by unfold xpShared; rw [if_neg q1, if_neg q2, if_pos q3]
        rw [e9]
        exact mjGo.ret 1 (fun _ => rfl) rfl
      · show mjGo _ _ 18 _ _
        have e9 : xpShared I m n = (-1) := by unfold xpShared; rw [if_neg q1, if_neg q2, if_neg q3]
        rw [e9]
        exact mjGo.ret 2 (fun _ => rfl) rfl
def mShare (I : Nat → Nat → Int32) (p n : Int32) : Int32 := (((p + n) - 1) / n)
theorem c_mShare (d : Nat) {I : Nat → Nat → Int32} {X : MX} (p n : Int32) (hn0 : ¬ n = 0) : mjEv d nyX12_shareOf [.int p, .int n] (mjH I X) (.inl (some (.int (mShare I p n)))) (mjH I X) := by
  refine mjEv.of ?_
  show mjGo d nyX12_shareOf 0 ([some (.int p), some (.int n)], [], mjH I X) _
  refine mjGo.run 6 (pc' := 6) (F' := ([some (.int p), some (.int n)], [.int n, .int ((p + n) - 1)], mjH I X)) (fun _ => rfl) ?_
  refine mjGo.op (pc' := 7) (F' := ([some (.int p), some (.int n)], [.int (((p + n) - 1) / n)], mjH I X)) (o := mjdiv (fun x y => x / y) 7) rfl (fun _ => mjdiv_ok (hn0)) ?_
  have e9 : mShare I p n = (((p + n) - 1) / n) := by unfold mShare; rfl
  rw [e9]
  exact mjGo.ret 1 (fun _ => rfl) rfl
def mpShared (I : Nat → Nat → Int32) (m n : Int32) : Int32 := if (mMin m) = 0 then (-1) else (if (mIn n 1 9) = 0 then (-1) else (mShare I (mPrice (I 44 3) m) n))
theorem c_mpShared (d : Nat) {I : Nat → Nat → Int32} {X : MX} (m n : Int32) : mjEv (d + 2) nyX12_shared [.ref 43, .int m, .int n] (mjH I X) (.inl (some (.int (mpShared I m n)))) (mjH I X) := by
  refine mjEv.of ?_
  show mjGo (d + 2) nyX12_shared 0 ([some (.ref 43), some (.int m), some (.int n)], [], mjH I X) _
  refine mjGo.run 1 (pc' := 1) (F' := ([some (.ref 43), some (.int m), some (.int n)], [.int m], mjH I X)) (fun _ => rfl) ?_
  refine mjGo.call (n := 1) (j := 133) (nx := 4) (o := some (.int (mMin m))) (h' := mjH I X) (fun _ => rfl) (c_mMin d m _) ?_
  show mjGo _ _ 4 ([some (.ref 43), some (.int m), some (.int n)], [.int (mMin m)], mjH I X) _
  refine mjGo.run 1 (pc' := (bif decide ((mMin m) = 0) then 34 else 7)) (F' := ([some (.ref 43), some (.int m), some (.int n)], [], mjH I X)) (fun _ => rfl) ?_
  refine mjGo.br (fun q1 => ?_) (fun q1 => ?_)
  · show mjGo _ _ 34 _ _
    have e9 : mpShared I m n = (-1) := by unfold mpShared; rw [if_pos q1]
    rw [e9]
    exact mjGo.ret 2 (fun _ => rfl) rfl
  · show mjGo _ _ 7 _ _
    refine mjGo.run 3 (pc' := 11) (F' := ([some (.ref 43), some (.int m), some (.int n)], [.int 9, .int 1, .int n], mjH I X)) (fun _ => rfl) ?_
    refine mjGo.call (n := 3) (j := 132) (nx := 14) (o := some (.int (mIn n 1 9))) (h' := mjH I X) (fun _ => rfl) (c_mIn (d + 1) n 1 9 _) ?_
    show mjGo _ _ 14 ([some (.ref 43), some (.int m), some (.int n)], [.int (mIn n 1 9)], mjH I X) _
    refine mjGo.run 1 (pc' := (bif decide ((mIn n 1 9) = 0) then 34 else 17)) (F' := ([some (.ref 43), some (.int m), some (.int n)], [], mjH I X)) (fun _ => rfl) ?_
    refine mjGo.br (fun q2 => ?_) (fun q2 => ?_)
    · show mjGo _ _ 34 _ _
      have e9 : mpShared I m n = (-1) := by unfold mpShared; rw [if_neg q1, if_pos q2]
      rw [e9]
      exact mjGo.ret 2 (fun _ => rfl) rfl
    · show mjGo _ _ 17 _ _
      refine mjGo.run 5 (pc' := 24) (F' := ([some (.ref 43), some (.int m), some (.int n)], [.int m, .int (I 44 3)], mjH I X)) (fun _ => rfl) ?_
      refine mjGo.call (n := 2) (j := 139) (nx := 27) (o := some (.int (mPrice (I 44 3) m))) (h' := mjH I X) (fun _ => rfl) (c_mPrice (d + 1) (I 44 3) m _) ?_
      show mjGo _ _ 27 ([some (.ref 43), some (.int m), some (.int n)], [.int (mPrice (I 44 3) m)], mjH I X) _
      refine mjGo.run 1 (pc' := 28) (F' := ([some (.ref 43), some (.int m), some (.int n)], [.int n, .int (mPrice (I 44 3) m)], mjH I X)) (fun _ => rfl) ?_
      refine mjGo.call (n := 2) (j := 164) (nx := 31) (o := some (.int (mShare I (mPrice (I 44 3) m) n))) (h' := mjH I X) (fun _ => rfl) (c_mShare (d + 1) (mPrice (I 44 3) m) n (fun e => by subst e; exact absurd (by decide) q2)) ?_
      show mjGo _ _ 31 ([some (.ref 43), some (.int m), some (.int n)], [.int (mShare I (mPrice (I 44 3) m) n)], mjH I X) _
      have e9 : mpShared I m n = (mShare I (mPrice (I 44 3) m) n) := by unfold mpShared; rw [if_neg q1, if_neg q2]
      rw [e9]
      exact mjGo.ret 2 (fun _ => rfl) rfl
theorem k_shared (d : Nat) (m n : Int32) : CALL (d + 12) nyX11_shared nyX12_shared [.ref 0, .int m, .int n] [.ref 43, .int m, .int n] := CALL.pure2 fun I X hR => by
  obtain ⟨lw, hlw, h18, h44⟩ := tR_law hR
  refine ⟨_, _, c_xpShared (d + 11) m n, c_mpShared (d + 10) m n, ?_⟩
  unfold xpShared mpShared xPart mShare
  rw [← xMin_eq, h18, h44]
  by_cases h : xMin m = 0
  · rw [if_pos h, if_pos h]
  · rw [if_neg h, if_neg h, xP_eq hlw h]
    unfold mIn
    by_cases h1 : n < 1
    · rw [if_pos h1, if_pos h1, if_pos rfl]
    · rw [if_neg h1, if_neg h1]
      by_cases h9 : n ≤ 9
      · rw [if_pos h9, if_pos (Int32.not_lt.mp h1), if_neg (Int32.not_lt.mpr h9)]
        rfl
      · rw [if_neg h9, if_pos (Int32.not_le.mp h9), if_pos rfl]
