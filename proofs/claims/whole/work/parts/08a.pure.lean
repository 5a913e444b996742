/-! the pure functions of both sides, out of their bodies -/
def mIn (v a b : Int32) : Int32 := if v < a then 0 else (if b < v then 0 else 1)
theorem z_mIn (v a b : Int32) : mIn v a b = 0 ∨ mIn v a b = 1 := by
  unfold mIn
  repeat' split
  all_goals first | exact Or.inl rfl | exact Or.inr rfl
theorem c_mIn (d : Nat) (v a b : Int32) (h : MH) : mjEv d nyX12_isIn [.int v, .int a, .int b] h (.inl (some (.int (mIn v a b)))) h := by
  refine mjEv.of ?_
  show mjGo d nyX12_isIn 0 ([some (.int v), some (.int a), some (.int b)], [], h) _
  refine mjGo.run 3 (pc' := (bif decide (v < a) then 14 else 5)) (F' := ([some (.int v), some (.int a), some (.int b)], [], h)) (fun _ => rfl) ?_
  refine mjGo.br (fun q1 => ?_) (fun q1 => ?_)
  · show mjGo _ _ 14 _ _
    have e9 : mIn v a b = 0 := by unfold mIn; rw [if_pos q1]
    rw [e9]
    exact mjGo.ret 2 (fun _ => rfl) rfl
  · show mjGo _ _ 5 _ _
    refine mjGo.run 3 (pc' := (bif decide (b < v) then 14 else 10)) (F' := ([some (.int v), some (.int a), some (.int b)], [], h)) (fun _ => rfl) ?_
    refine mjGo.br (fun q2 => ?_) (fun q2 => ?_)
    · show mjGo _ _ 14 _ _
      have e9 : mIn v a b = 0 := by unfold mIn; rw [if_neg q1, if_pos q2]
      rw [e9]
      exact mjGo.ret 2 (fun _ => rfl) rfl
    · show mjGo _ _ 10 _ _
      have e9 : mIn v a b = 1 := by unfold mIn; rw [if_neg q1, if_neg q2]
      rw [e9]
      exact mjGo.ret 3 (fun _ => rfl) rfl
def mMin (m : Int32) : Int32 := (mIn m 0 719)
theorem z_mMin (m : Int32) : mMin m = 0 ∨ mMin m = 1 := by
  unfold mMin
  repeat' split
  all_goals first | exact Or.inl rfl | exact Or.inr rfl | exact z_mIn _ _ _
theorem c_mMin (d : Nat) (m : Int32) (h : MH) : mjEv (d + 1) nyX12_isMinute [.int m] h (.inl (some (.int (mMin m)))) h := by
  refine mjEv.of ?_
  show mjGo (d + 1) nyX12_isMinute 0 ([some (.int m)], [], h) _
  refine mjGo.run 3 (pc' := 5) (F' := ([some (.int m)], [.int 719, .int 0, .int m], h)) (fun _ => rfl) ?_
  refine mjGo.call (n := 3) (j := 132) (nx := 8) (o := some (.int (mIn m 0 719))) (h' := h) (fun _ => rfl) (c_mIn d m 0 719 _) ?_
  show mjGo _ _ 8 ([some (.int m)], [.int (mIn m 0 719)], h) _
  have e9 : mMin m = (mIn m 0 719) := by unfold mMin; rfl
  rw [e9]
  exact mjGo.zret rfl (by first | exact z_mIn _ _ _) rfl
def mPrice (l m : Int32) : Int32 := if (m / 60) ≠ 0 then (if l ≠ 0 then (if l ≠ 1 then 6 else ((m / 60) + ((m - m / 60 * 60) / 10))) else (m / 60)) else (if l ≠ 0 then (if l ≠ 1 then 6 else (12 + ((m - m / 60 * 60) / 10))) else 12)
theorem c_mPrice (d : Nat) (l m : Int32) (h : MH) : mjEv d nyX12_priceBy [.int l, .int m] h (.inl (some (.int (mPrice l m)))) h := by
  refine mjEv.of ?_
  show mjGo d nyX12_priceBy 0 ([some (.int l), some (.int m), none], [], h) _
  refine mjGo.run 4 (pc' := (bif decide ((m / 60) ≠ 0) then 12 else 7)) (F' := ([some (.int l), some (.int m), none], [], h)) (fun _ => rfl) ?_
  refine mjGo.br (fun q1 => ?_) (fun q1 => ?_)
  · show mjGo _ _ 12 _ _
    refine mjGo.run 6 (pc' := (bif decide (l ≠ 0) then 25 else 21)) (F' := ([some (.int l), some (.int m), some (.int (m / 60))], [], h)) (fun _ => rfl) ?_
    refine mjGo.br (fun q2 => ?_) (fun q2 => ?_)
    · show mjGo _ _ 25 _ _
      refine mjGo.run 3 (pc' := (bif decide (l ≠ 1) then 42 else 30)) (F' := ([some (.int l), some (.int m), some (.int (m / 60))], [], h)) (fun _ => rfl) ?_
      refine mjGo.br (fun q3 => ?_) (fun q3 => ?_)
      · show mjGo _ _ 42 _ _
        have e9 : mPrice l m = 6 := by unfold mPrice; rw [if_pos q1, if_pos q2, if_pos q3]
        rw [e9]
        exact mjGo.ret 2 (fun _ => rfl) rfl
      · show mjGo _ _ 30 _ _
        have e9 : mPrice l m = ((m / 60) + ((m - m / 60 * 60) / 10)) := by unfold mPrice; rw [if_pos q1, if_pos q2, if_neg q3]
        rw [e9]
        exact mjGo.ret 9 (fun _ => rfl) rfl
    · show mjGo _ _ 21 _ _
      have e9 : mPrice l m = (m / 60) := by unfold mPrice; rw [if_pos q1, if_neg q2]
      rw [e9]
      exact mjGo.ret 3 (fun _ => rfl) rfl
  · show mjGo _ _ 7 _ _
    refine mjGo.run 5 (pc' := (bif decide (l ≠ 0) then 25 else 21)) (F' := ([some (.int l), some (.int m), some (.int 12)], [], h)) (fun _ => rfl) ?_
    refine mjGo.br (fun q4 => ?_) (fun q4 => ?_)
    · show mjGo _ _ 25 _ _
      refine mjGo.run 3 (pc' := (bif decide (l ≠ 1) then 42 else 30)) (F' := ([some (.int l), some (.int m), some (.int 12)], [], h)) (fun _ => rfl) ?_
      refine mjGo.br (fun q5 => ?_) (fun q5 => ?_)
      · show mjGo _ _ 42 _ _
        have e9 : mPrice l m = 6 := by unfold mPrice; rw [if_neg q1, if_pos q4, if_pos q5]
        rw [e9]
        exact mjGo.ret 2 (fun _ => rfl) rfl
      · show mjGo _ _ 30 _ _
        have e9 : mPrice l m = (12 + ((m - m / 60 * 60) / 10)) := by unfold mPrice; rw [if_neg q1, if_pos q4, if_neg q5]
        rw [e9]
        exact mjGo.ret 9 (fun _ => rfl) rfl
    · show mjGo _ _ 21 _ _
      have e9 : mPrice l m = 12 := by unfold mPrice; rw [if_neg q1, if_neg q4]
      rw [e9]
      exact mjGo.ret 3 (fun _ => rfl) rfl
def mEarly (k f : Int32) : Int32 := if k ≠ 1 then (if k ≠ 6 then 0 else f) else (2 * f)
theorem c_mEarly (d : Nat) (k f : Int32) (h : MH) : mjEv d nyX12_early [.int k, .int f] h (.inl (some (.int (mEarly k f)))) h := by
  refine mjEv.of ?_
  show mjGo d nyX12_early 0 ([some (.int k), some (.int f)], [], h) _
  refine mjGo.run 3 (pc' := (bif decide (k ≠ 1) then 11 else 5)) (F' := ([some (.int k), some (.int f)], [], h)) (fun _ => rfl) ?_
  refine mjGo.br (fun q1 => ?_) (fun q1 => ?_)
  · show mjGo _ _ 11 _ _
    refine mjGo.run 3 (pc' := (bif decide (k ≠ 6) then 21 else 17)) (F' := ([some (.int k), some (.int f)], [], h)) (fun _ => rfl) ?_
    refine mjGo.br (fun q2 => ?_) (fun q2 => ?_)
    · show mjGo _ _ 21 _ _
      have e9 : mEarly k f = 0 := by unfold mEarly; rw [if_pos q1, if_pos q2]
      rw [e9]
      exact mjGo.ret 2 (fun _ => rfl) rfl
    · show mjGo _ _ 17 _ _
      have e9 : mEarly k f = f := by unfold mEarly; rw [if_pos q1, if_neg q2]
      rw [e9]
      exact mjGo.ret 3 (fun _ => rfl) rfl
  · show mjGo _ _ 5 _ _
    have e9 : mEarly k f = (2 * f) := by unfold mEarly; rw [if_neg q1]
    rw [e9]
    exact mjGo.ret 5 (fun _ => rfl) rfl
def mTho (dr lo mi : Int32) : Int32 := (mi + (((mi - lo) * dr) / 60))
theorem c_mTho (d : Nat) (dr lo mi : Int32) (h : MH) : mjEv d nyX12_thought [.int dr, .int lo, .int mi] h (.inl (some (.int (mTho dr lo mi)))) h := by
  refine mjEv.of ?_
  show mjGo d nyX12_thought 0 ([some (.int dr), some (.int lo), some (.int mi)], [], h) _
  have e9 : mTho dr lo mi = (mi + (((mi - lo) * dr) / 60)) := by unfold mTho; rfl
  rw [e9]
  exact mjGo.ret 10 (fun _ => rfl) rfl
def mClock (k : Int32) : Int32 := if k = 2 then 1 else (if k = 3 then 1 else (if k = 5 then 1 else (if k ≠ 7 then 0 else 1)))
theorem z_mClock (k : Int32) : mClock k = 0 ∨ mClock k = 1 := by
  unfold mClock
  repeat' split
  all_goals first | exact Or.inl rfl | exact Or.inr rfl | exact z_mIn _ _ _ | exact z_mMin _
theorem c_mClock (d : Nat) (k : Int32) (h : MH) : mjEv d nyX12_isClock [.int k] h (.inl (some (.int (mClock k)))) h := by
  refine mjEv.of ?_
  show mjGo d nyX12_isClock 0 ([some (.int k)], [], h) _
  refine mjGo.run 3 (pc' := (bif decide (k = 2) then 21 else 5)) (F' := ([some (.int k)], [], h)) (fun _ => rfl) ?_
  refine mjGo.br (fun q1 => ?_) (fun q1 => ?_)
  · show mjGo _ _ 21 _ _
    have e9 : mClock k = 1 := by unfold mClock; rw [if_pos q1]
    rw [e9]
    exact mjGo.ret 3 (fun _ => rfl) rfl
  · show mjGo _ _ 5 _ _
    refine mjGo.run 3 (pc' := (bif decide (k = 3) then 21 else 10)) (F' := ([some (.int k)], [], h)) (fun _ => rfl) ?_
    refine mjGo.br (fun q2 => ?_) (fun q2 => ?_)
    · show mjGo _ _ 21 _ _
      have e9 : mClock k = 1 := by unfold mClock; rw [if_neg q1, if_pos q2]
      rw [e9]
      exact mjGo.ret 3 (fun _ => rfl) rfl
    · show mjGo _ _ 10 _ _
      refine mjGo.run 3 (pc' := (bif decide (k = 5) then 21 else 15)) (F' := ([some (.int k)], [], h)) (fun _ => rfl) ?_
      refine mjGo.br (fun q3 => ?_) (fun q3 => ?_)
      · show mjGo _ _ 21 _ _
        have e9 : mClock k = 1 := by unfold mClock; rw [if_neg q1, if_neg q2, if_pos q3]
        rw [e9]
        exact mjGo.ret 3 (fun _ => rfl) rfl
      · show mjGo _ _ 15 _ _
        refine mjGo.run 3 (pc' := (bif decide (k ≠ 7) then 25 else 21)) (F' := ([some (.int k)], [], h)) (fun _ => rfl) ?_
        refine mjGo.br (fun q4 => ?_) (fun q4 => ?_)
        · show mjGo _ _ 25 _ _
          have e9 : mClock k = 0 := by unfold mClock; rw [if_neg q1, if_neg q2, if_neg q3, if_pos q4]
          rw [e9]
          exact mjGo.ret 2 (fun _ => rfl) rfl
        · show mjGo _ _ 21 _ _
          have e9 : mClock k = 1 := by unfold mClock; rw [if_neg q1, if_neg q2, if_neg q3, if_neg q4]
          rw [e9]
          exact mjGo.ret 3 (fun _ => rfl) rfl
def mPays (k pr : Int32) : Int32 := if k ≠ 5 then (if k ≠ 7 then pr else (mjmax 0 (pr - 2))) else ((pr + 1) / 2)
theorem c_mPays (d : Nat) (k pr : Int32) (h : MH) : mjEv d nyX12_pays [.int k, .int pr] h (.inl (some (.int (mPays k pr)))) h := by
  refine mjEv.of ?_
  show mjGo d nyX12_pays 0 ([some (.int k), some (.int pr)], [], h) _
  refine mjGo.run 3 (pc' := (bif decide (k ≠ 5) then 13 else 5)) (F' := ([some (.int k), some (.int pr)], [], h)) (fun _ => rfl) ?_
  refine mjGo.br (fun q1 => ?_) (fun q1 => ?_)
  · show mjGo _ _ 13 _ _
    refine mjGo.run 3 (pc' := (bif decide (k ≠ 7) then 29 else 19)) (F' := ([some (.int k), some (.int pr)], [], h)) (fun _ => rfl) ?_
    refine mjGo.br (fun q2 => ?_) (fun q2 => ?_)
    · show mjGo _ _ 29 _ _
      have e9 : mPays k pr = pr := by unfold mPays; rw [if_pos q1, if_pos q2]
      rw [e9]
      exact mjGo.ret 2 (fun _ => rfl) rfl
    · show mjGo _ _ 19 _ _
      have e9 : mPays k pr = (mjmax 0 (pr - 2)) := by unfold mPays; rw [if_pos q1, if_neg q2]
      rw [e9]
      exact mjGo.ret 7 (fun _ => rfl) rfl
  · show mjGo _ _ 5 _ _
    have e9 : mPays k pr = ((pr + 1) / 2) := by unfold mPays; rw [if_neg q1]
    rw [e9]
    exact mjGo.ret 7 (fun _ => rfl) rfl
def xMin (m : Int32) : Int32 := if m < 0 then 0 else (if 719 < m then 0 else 1)
theorem z_xMin (m : Int32) : xMin m = 0 ∨ xMin m = 1 := by
  unfold xMin
  repeat' split
  all_goals first | exact Or.inl rfl | exact Or.inr rfl | exact z_mIn _ _ _ | exact z_mMin _ | exact z_mClock _
theorem c_xMin (d : Nat) (m : Int32) (h : MH) : mjEv d nyX11_isMinute [.int m] h (.inl (some (.int (xMin m)))) h := by
  refine mjEv.of ?_
  show mjGo d nyX11_isMinute 0 ([some (.int m)], [], h) _
  refine mjGo.run 2 (pc' := (bif decide (m < 0) then 15 else 4)) (F' := ([some (.int m)], [], h)) (fun _ => rfl) ?_
  refine mjGo.br (fun q1 => ?_) (fun q1 => ?_)
  · show mjGo _ _ 15 _ _
    have e9 : xMin m = 0 := by unfold xMin; rw [if_pos q1]
    rw [e9]
    exact mjGo.ret 2 (fun _ => rfl) rfl
  · show mjGo _ _ 4 _ _
    refine mjGo.run 3 (pc' := (bif decide (719 < m) then 15 else 11)) (F' := ([some (.int m)], [], h)) (fun _ => rfl) ?_
    refine mjGo.br (fun q2 => ?_) (fun q2 => ?_)
    · show mjGo _ _ 15 _ _
      have e9 : xMin m = 0 := by unfold xMin; rw [if_neg q1, if_pos q2]
      rw [e9]
      exact mjGo.ret 2 (fun _ => rfl) rfl
    · show mjGo _ _ 11 _ _
      have e9 : xMin m = 1 := by unfold xMin; rw [if_neg q1, if_neg q2]
      rw [e9]
      exact mjGo.ret 3 (fun _ => rfl) rfl
def xShelf (m : Int32) : Int32 := if m < 0 then 0 else (if 8 ≤ m then 0 else 1)
theorem z_xShelf (m : Int32) : xShelf m = 0 ∨ xShelf m = 1 := by
  unfold xShelf
  repeat' split
  all_goals first | exact Or.inl rfl | exact Or.inr rfl | exact z_mIn _ _ _ | exact z_mMin _ | exact z_mClock _ | exact z_xMin _
theorem c_xShelf (d : Nat) (m : Int32) (h : MH) : mjEv d nyX11_isShelf [.int m] h (.inl (some (.int (xShelf m)))) h := by
  refine mjEv.of ?_
  show mjGo d nyX11_isShelf 0 ([some (.int m)], [], h) _
  refine mjGo.run 2 (pc' := (bif decide (m < 0) then 14 else 4)) (F' := ([some (.int m)], [], h)) (fun _ => rfl) ?_
  refine mjGo.br (fun q1 => ?_) (fun q1 => ?_)
  · show mjGo _ _ 14 _ _
    have e9 : xShelf m = 0 := by unfold xShelf; rw [if_pos q1]
    rw [e9]
    exact mjGo.ret 2 (fun _ => rfl) rfl
  · show mjGo _ _ 4 _ _
    refine mjGo.run 3 (pc' := (bif decide (8 ≤ m) then 14 else 10)) (F' := ([some (.int m)], [], h)) (fun _ => rfl) ?_
    refine mjGo.br (fun q2 => ?_) (fun q2 => ?_)
    · show mjGo _ _ 14 _ _
      have e9 : xShelf m = 0 := by unfold xShelf; rw [if_neg q1, if_pos q2]
      rw [e9]
      exact mjGo.ret 2 (fun _ => rfl) rfl
    · show mjGo _ _ 10 _ _
      have e9 : xShelf m = 1 := by unfold xShelf; rw [if_neg q1, if_neg q2]
      rw [e9]
      exact mjGo.ret 3 (fun _ => rfl) rfl
def xOffer (m w c : Int32) : Int32 := if (xMin m) = 0 then 0 else (if w < 0 then 0 else (if 60 < w then 0 else (if c < 0 then 0 else (if 9 < c then 0 else 1))))
theorem z_xOffer (m w c : Int32) : xOffer m w c = 0 ∨ xOffer m w c = 1 := by
  unfold xOffer
  repeat' split
  all_goals first | exact Or.inl rfl | exact Or.inr rfl | exact z_mIn _ _ _ | exact z_mMin _ | exact z_mClock _ | exact z_xMin _ | exact z_xShelf _
theorem c_xOffer (d : Nat) (m w c : Int32) (h : MH) : mjEv (d + 1) nyX11_isOffer [.int m, .int w, .int c] h (.inl (some (.int (xOffer m w c)))) h := by
  refine mjEv.of ?_
  show mjGo (d + 1) nyX11_isOffer 0 ([some (.int m), some (.int w), some (.int c)], [], h) _
  refine mjGo.run 1 (pc' := 1) (F' := ([some (.int m), some (.int w), some (.int c)], [.int m], h)) (fun _ => rfl) ?_
  refine mjGo.call (n := 1) (j := 69) (nx := 4) (o := some (.int (xMin m))) (h' := h) (fun _ => rfl) (c_xMin d m _) ?_
  show mjGo _ _ 4 ([some (.int m), some (.int w), some (.int c)], [.int (xMin m)], h) _
  refine mjGo.run 1 (pc' := (bif decide ((xMin m) = 0) then 31 else 7)) (F' := ([some (.int m), some (.int w), some (.int c)], [], h)) (fun _ => rfl) ?_
  refine mjGo.br (fun q1 => ?_) (fun q1 => ?_)
  · show mjGo _ _ 31 _ _
    have e9 : xOffer m w c = 0 := by unfold xOffer; rw [if_pos q1]
    rw [e9]
    exact mjGo.ret 2 (fun _ => rfl) rfl
  · show mjGo _ _ 7 _ _
    refine mjGo.run 2 (pc' := (bif decide (w < 0) then 31 else 11)) (F' := ([some (.int m), some (.int w), some (.int c)], [], h)) (fun _ => rfl) ?_
    refine mjGo.br (fun q2 => ?_) (fun q2 => ?_)
    · show mjGo _ _ 31 _ _
      have e9 : xOffer m w c = 0 := by unfold xOffer; rw [if_neg q1, if_pos q2]
      rw [e9]
      exact mjGo.ret 2 (fun _ => rfl) rfl
    · show mjGo _ _ 11 _ _
      refine mjGo.run 3 (pc' := (bif decide (60 < w) then 31 else 17)) (F' := ([some (.int m), some (.int w), some (.int c)], [], h)) (fun _ => rfl) ?_
      refine mjGo.br (fun q3 => ?_) (fun q3 => ?_)
      · show mjGo _ _ 31 _ _
        have e9 : xOffer m w c = 0 := by unfold xOffer; rw [if_neg q1, if_neg q2, if_pos q3]
        rw [e9]
        exact mjGo.ret 2 (fun _ => rfl) rfl
      · show mjGo _ _ 17 _ _
        refine mjGo.run 2 (pc' := (bif decide (c < 0) then 31 else 21)) (F' := ([some (.int m), some (.int w), some (.int c)], [], h)) (fun _ => rfl) ?_
        refine mjGo.br (fun q4 => ?_) (fun q4 => ?_)
        · show mjGo _ _ 31 _ _
          have e9 : xOffer m w c = 0 := by unfold xOffer; rw [if_neg q1, if_neg q2, if_neg q3, if_pos q4]
          rw [e9]
          exact mjGo.ret 2 (fun _ => rfl) rfl
        · show mjGo _ _ 21 _ _
          refine mjGo.run 3 (pc' := (bif decide (9 < c) then 31 else 27)) (F' := ([some (.int m), some (.int w), some (.int c)], [], h)) (fun _ => rfl) ?_
          refine mjGo.br (fun q5 => ?_) (fun q5 => ?_)
          · show mjGo _ _ 31 _ _
            have e9 : xOffer m w c = 0 := by unfold xOffer; rw [if_neg q1, if_neg q2, if_neg q3, if_neg q4, if_pos q5]
            rw [e9]
            exact mjGo.ret 2 (fun _ => rfl) rfl
          · show mjGo _ _ 27 _ _
            have e9 : xOffer m w c = 1 := by unfold xOffer; rw [if_neg q1, if_neg q2, if_neg q3, if_neg q4, if_neg q5]
            rw [e9]
            exact mjGo.ret 3 (fun _ => rfl) rfl
def xPrice (m l : Int32) : Int32 := if l ≠ 2 then (if 60 ≤ m then (if l ≠ 1 then (m / 60) else ((m / 60) + ((m - m / 60 * 60) / 10))) else (if l ≠ 1 then 12 else (12 + ((m - m / 60 * 60) / 10)))) else 6
theorem c_xPrice (d : Nat) (m l : Int32) (h : MH) : mjEv d nyX11_priceAt [.int m, .int l] h (.inl (some (.int (xPrice m l)))) h := by
  refine mjEv.of ?_
  show mjGo d nyX11_priceAt 0 ([some (.int m), some (.int l), none], [], h) _
  refine mjGo.run 3 (pc' := (bif decide (l ≠ 2) then 8 else 5)) (F' := ([some (.int m), some (.int l), none], [], h)) (fun _ => rfl) ?_
  refine mjGo.br (fun q1 => ?_) (fun q1 => ?_)
  · show mjGo _ _ 8 _ _
    refine mjGo.run 3 (pc' := (bif decide (60 ≤ m) then 19 else 14)) (F' := ([some (.int m), some (.int l), none], [], h)) (fun _ => rfl) ?_
    refine mjGo.br (fun q2 => ?_) (fun q2 => ?_)
    · show mjGo _ _ 19 _ _
      refine mjGo.run 7 (pc' := (bif decide (l ≠ 1) then 41 else 29)) (F' := ([some (.int m), some (.int l), some (.int (m / 60))], [], h)) (fun _ => rfl) ?_
      refine mjGo.br (fun q3 => ?_) (fun q3 => ?_)
      · show mjGo _ _ 41 _ _
        have e9 : xPrice m l = (m / 60) := by unfold xPrice; rw [if_pos q1, if_pos q2, if_pos q3]
        rw [e9]
        exact mjGo.ret 2 (fun _ => rfl) rfl
      · show mjGo _ _ 29 _ _
        have e9 : xPrice m l = ((m / 60) + ((m - m / 60 * 60) / 10)) := by unfold xPrice; rw [if_pos q1, if_pos q2, if_neg q3]
        rw [e9]
        exact mjGo.ret 9 (fun _ => rfl) rfl
    · show mjGo _ _ 14 _ _
      refine mjGo.run 6 (pc' := (bif decide (l ≠ 1) then 41 else 29)) (F' := ([some (.int m), some (.int l), some (.int 12)], [], h)) (fun _ => rfl) ?_
      refine mjGo.br (fun q4 => ?_) (fun q4 => ?_)
      · show mjGo _ _ 41 _ _
        have e9 : xPrice m l = 12 := by unfold xPrice; rw [if_pos q1, if_neg q2, if_pos q4]
        rw [e9]
        exact mjGo.ret 2 (fun _ => rfl) rfl
      · show mjGo _ _ 29 _ _
        have e9 : xPrice m l = (12 + ((m - m / 60 * 60) / 10)) := by unfold xPrice; rw [if_pos q1, if_neg q2, if_neg q4]
        rw [e9]
        exact mjGo.ret 9 (fun _ => rfl) rfl
  · show mjGo _ _ 5 _ _
    have e9 : xPrice m l = 6 := by unfold xPrice; rw [if_neg q1]
    rw [e9]
    exact mjGo.ret 2 (fun _ => rfl) rfl
def xOther (m l : Int32) : Int32 := (xPrice ((m + 60) - (m + 60) / 720 * 720) l)
theorem c_xOther (d : Nat) (m l : Int32) (h : MH) : mjEv (d + 1) nyX11_otherPriceAt [.int m, .int l] h (.inl (some (.int (xOther m l)))) h := by
  refine mjEv.of ?_
  show mjGo (d + 1) nyX11_otherPriceAt 0 ([some (.int m), some (.int l)], [], h) _
  refine mjGo.run 6 (pc' := 9) (F' := ([some (.int m), some (.int l)], [.int l, .int ((m + 60) - (m + 60) / 720 * 720)], h)) (fun _ => rfl) ?_
  refine mjGo.call (n := 2) (j := 19) (nx := 12) (o := some (.int (xPrice ((m + 60) - (m + 60) / 720 * 720) l))) (h' := h) (fun _ => rfl) (c_xPrice d ((m + 60) - (m + 60) / 720 * 720) l _) ?_
  show mjGo _ _ 12 ([some (.int m), some (.int l)], [.int (xPrice ((m + 60) - (m + 60) / 720 * 720) l)], h) _
  have e9 : xOther m l = (xPrice ((m + 60) - (m + 60) / 720 * 720) l) := by unfold xOther; rfl
  rw [e9]
  exact mjGo.ret 1 (fun _ => rfl) rfl
def xTho (dr lo mi : Int32) : Int32 := (mi + (((mi - lo) * dr) / 60))
theorem c_xTho (d : Nat) (dr lo mi : Int32) (h : MH) : mjEv d nyX11_reckoned [.int dr, .int lo, .int mi] h (.inl (some (.int (xTho dr lo mi)))) h := by
  refine mjEv.of ?_
  show mjGo d nyX11_reckoned 0 ([some (.int dr), some (.int lo), some (.int mi)], [], h) _
  have e9 : xTho dr lo mi = (mi + (((mi - lo) * dr) / 60)) := by unfold xTho; rfl
  rw [e9]
  exact mjGo.ret 10 (fun _ => rfl) rfl
def xDigit (m : Int32) : Int32 := if m < 48 then 0 else (if 57 < m then 0 else 1)
theorem z_xDigit (m : Int32) : xDigit m = 0 ∨ xDigit m = 1 := by
  unfold xDigit
  repeat' split
  all_goals first | exact Or.inl rfl | exact Or.inr rfl | exact z_mIn _ _ _ | exact z_mMin _ | exact z_mClock _ | exact z_xMin _ | exact z_xShelf _ | exact z_xOffer _ _ _
theorem c_xDigit (d : Nat) (m : Int32) (h : MH) : mjEv d nyX11_isDigit [.int m] h (.inl (some (.int (xDigit m)))) h := by
  refine mjEv.of ?_
  show mjGo d nyX11_isDigit 0 ([some (.int m)], [], h) _
  refine mjGo.run 3 (pc' := (bif decide (m < 48) then 16 else 6)) (F' := ([some (.int m)], [], h)) (fun _ => rfl) ?_
  refine mjGo.br (fun q1 => ?_) (fun q1 => ?_)
  · show mjGo _ _ 16 _ _
    have e9 : xDigit m = 0 := by unfold xDigit; rw [if_pos q1]
    rw [e9]
    exact mjGo.ret 2 (fun _ => rfl) rfl
  · show mjGo _ _ 6 _ _
    refine mjGo.run 3 (pc' := (bif decide (57 < m) then 16 else 12)) (F' := ([some (.int m)], [], h)) (fun _ => rfl) ?_
    refine mjGo.br (fun q2 => ?_) (fun q2 => ?_)
    · show mjGo _ _ 16 _ _
      have e9 : xDigit m = 0 := by unfold xDigit; rw [if_neg q1, if_pos q2]
      rw [e9]
      exact mjGo.ret 2 (fun _ => rfl) rfl
    · show mjGo _ _ 12 _ _
      have e9 : xDigit m = 1 := by unfold xDigit; rw [if_neg q1, if_neg q2]
      rw [e9]
      exact mjGo.ret 3 (fun _ => rfl) rfl
