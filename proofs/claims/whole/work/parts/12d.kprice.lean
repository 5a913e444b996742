/-! calls on prices -/
def mIsS (I : Nat → Nat → Int32) (m w a c : Int32) : Int32 := if (mPrice (I 44 3) m) ≤ (a + (w * c)) then 0 else 1
theorem z_mIsS (I : Nat → Nat → Int32) (m w a c : Int32) : mIsS I m w a c = 0 ∨ mIsS I m w a c = 1 := by
  unfold mIsS
  repeat' split
  all_goals first | exact Or.inl rfl | exact Or.inr rfl | exact z_mIn _ _ _ | exact z_mMin _ | exact z_mClock _ | exact z_xMin _ | exact z_xShelf _ | exact z_xOffer _ _ _ | exact z_xDigit _ | exact z_xC4 | exact z_xC0 | exact z_mIsW _ _ | exact z_mIsL _ _
theorem c_mIsS (d : Nat) {I : Nat → Nat → Int32} {X : MX} (m w a c : Int32) : mjEv (d + 1) nyX12_isSold [.ref 43, .int m, .int w, .int a, .int c] (mjH I X) (.inl (some (.int (mIsS I m w a c)))) (mjH I X) := by
  refine mjEv.of ?_
  show mjGo (d + 1) nyX12_isSold 0 ([some (.ref 43), some (.int m), some (.int w), some (.int a), some (.int c)], [], mjH I X) _
  refine mjGo.run 10 (pc' := 13) (F' := ([some (.ref 43), some (.int m), some (.int w), some (.int a), some (.int c)], [.int m, .int (I 44 3), .int (a + (w * c))], mjH I X)) (fun _ => rfl) ?_
  refine mjGo.call (n := 2) (j := 139) (nx := 16) (o := some (.int (mPrice (I 44 3) m))) (h' := mjH I X) (fun _ => rfl) (c_mPrice d (I 44 3) m _) ?_
  show mjGo _ _ 16 ([some (.ref 43), some (.int m), some (.int w), some (.int a), some (.int c)], [.int (mPrice (I 44 3) m), .int (a + (w * c))], mjH I X) _
  refine mjGo.run 1 (pc' := (bif decide ((mPrice (I 44 3) m) ≤ (a + (w * c))) then 23 else 19)) (F' := ([some (.ref 43), some (.int m), some (.int w), some (.int a), some (.int c)], [], mjH I X)) (fun _ => rfl) ?_
  refine mjGo.br (fun q1 => ?_) (fun q1 => ?_)
  · show mjGo _ _ 23 _ _
    have e9 : mIsS I m w a c = 0 := by unfold mIsS; rw [if_pos q1]
    rw [e9]
    exact mjGo.ret 2 (fun _ => rfl) rfl
  · show mjGo _ _ 19 _ _
    have e9 : mIsS I m w a c = 1 := by unfold mIsS; rw [if_neg q1]
    rw [e9]
    exact mjGo.ret 3 (fun _ => rfl) rfl
def mOther (I : Nat → Nat → Int32) (m : Int32) : Int32 := (mPrice (I 44 3) ((m + 60) - (m + 60) / 720 * 720))
theorem c_mOther (d : Nat) {I : Nat → Nat → Int32} {X : MX} (m : Int32) : mjEv (d + 1) nyX12_otherPrice [.ref 43, .int m] (mjH I X) (.inl (some (.int (mOther I m)))) (mjH I X) := by
  refine mjEv.of ?_
  show mjGo (d + 1) nyX12_otherPrice 0 ([some (.ref 43), some (.int m)], [], mjH I X) _
  refine mjGo.run 9 (pc' := 14) (F' := ([some (.ref 43), some (.int m)], [.int ((m + 60) - (m + 60) / 720 * 720), .int (I 44 3)], mjH I X)) (fun _ => rfl) ?_
  refine mjGo.call (n := 2) (j := 139) (nx := 17) (o := some (.int (mPrice (I 44 3) ((m + 60) - (m + 60) / 720 * 720)))) (h' := mjH I X) (fun _ => rfl) (c_mPrice d (I 44 3) ((m + 60) - (m + 60) / 720 * 720) _) ?_
  show mjGo _ _ 17 ([some (.ref 43), some (.int m)], [.int (mPrice (I 44 3) ((m + 60) - (m + 60) / 720 * 720))], mjH I X) _
  have e9 : mOther I m = (mPrice (I 44 3) ((m + 60) - (m + 60) / 720 * 720)) := by unfold mOther; rfl
  rw [e9]
  exact mjGo.ret 1 (fun _ => rfl) rfl
def xpBuys (I : Nat → Nat → Int32) (m w a c : Int32) : Int32 := if (xOffer m w c) = 0 then (-1) else (if a < 0 then (-1) else (if a ≤ 12 then (if (xPrice m (I 1 8)) ≤ (a + (w * c)) then 0 else 1) else (-1)))
theorem c_xpBuys (d : Nat) {I : Nat → Nat → Int32} {X : MX} (m w a c : Int32) : mjEv (d + 2) nyX11_buys [.ref 0, .int m, .int w, .int a, .int c] (mjH I X) (.inl (some (.int (xpBuys I m w a c)))) (mjH I X) := by
  refine mjEv.of ?_
  show mjGo (d + 2) nyX11_buys 0 ([some (.ref 0), some (.int m), some (.int w), some (.int a), some (.int c)], [], mjH I X) _
  refine mjGo.run 3 (pc' := 4) (F' := ([some (.ref 0), some (.int m), some (.int w), some (.int a), some (.int c)], [.int c, .int w, .int m], mjH I X)) (fun _ => rfl) ?_
  refine mjGo.call (n := 3) (j := 109) (nx := 7) (o := some (.int (xOffer m w c))) (h' := mjH I X) (fun _ => rfl) (c_xOffer d m w c _) ?_
  show mjGo _ _ 7 ([some (.ref 0), some (.int m), some (.int w), some (.int a), some (.int c)], [.int (xOffer m w c)], mjH I X) _
  refine mjGo.run 1 (pc' := (bif decide ((xOffer m w c) = 0) then 20 else 10)) (F' := ([some (.ref 0), some (.int m), some (.int w), some (.int a), some (.int c)], [], mjH I X)) (fun _ => rfl) ?_
  refine mjGo.br (fun q1 => ?_) (fun q1 => ?_)
  · show mjGo _ _ 20 _ _
    have e9 : xpBuys I m w a c = (-1) := by unfold xpBuys; rw [if_pos q1]
    rw [e9]
    exact mjGo.ret 2 (fun _ => rfl) rfl
  · show mjGo _ _ 10 _ _
    refine mjGo.run 2 (pc' := (bif decide (a < 0) then 20 else 14)) (F' := ([some (.ref 0), some (.int m), some (.int w), some (.int a), some (.int c)], [], mjH I X)) (fun _ => rfl) ?_
    refine mjGo.br (fun q2 => ?_) (fun q2 => ?_)
    · show mjGo _ _ 20 _ _
      have e9 : xpBuys I m w a c = (-1) := by unfold xpBuys; rw [if_neg q1, if_pos q2]
      rw [e9]
      exact mjGo.ret 2 (fun _ => rfl) rfl
    · show mjGo _ _ 14 _ _
      refine mjGo.run 3 (pc' := (bif decide (a ≤ 12) then 22 else 20)) (F' := ([some (.ref 0), some (.int m), some (.int w), some (.int a), some (.int c)], [], mjH I X)) (fun _ => rfl) ?_
      refine mjGo.br (fun q3 => ?_) (fun q3 => ?_)
      · show mjGo _ _ 22 _ _
        refine mjGo.run 9 (pc' := 36) (F' := ([some (.ref 0), some (.int m), some (.int w), some (.int a), some (.int c)], [.int (I 1 8), .int m, .int (a + (w * c))], mjH I X)) (fun _ => rfl) ?_
        refine mjGo.call (n := 2) (j := 19) (nx := 39) (o := some (.int (xPrice m (I 1 8)))) (h' := mjH I X) (fun _ => rfl) (c_xPrice (d + 1) m (I 1 8) _) ?_
        show mjGo _ _ 39 ([some (.ref 0), some (.int m), some (.int w), some (.int a), some (.int c)], [.int (xPrice m (I 1 8)), .int (a + (w * c))], mjH I X) _
        refine mjGo.run 1 (pc' := (bif decide ((xPrice m (I 1 8)) ≤ (a + (w * c))) then 46 else 42)) (F' := ([some (.ref 0), some (.int m), some (.int w), some (.int a), some (.int c)], [], mjH I X)) (fun _ => rfl) ?_
        refine mjGo.br (fun q4 => ?_) (fun q4 => ?_)
        · show mjGo _ _ 46 _ _
          have e9 : xpBuys I m w a c = 0 := by unfold xpBuys; rw [if_neg q1, if_neg q2, if_pos q3, if_pos q4]
          rw [e9]
          exact mjGo.ret 2 (fun _ => rfl) rfl
        · show mjGo _ _ 42 _ _
          have e9 : xpBuys I m w a c = 1 := by unfold xpBuys; rw [if_neg q1, if_neg q2, if_pos q3, if_neg q4]
          rw [e9]
          exact mjGo.ret 3 (fun _ => rfl) rfl
      · show mjGo _ _ 20 _ _
        have e9 : xpBuys I m w a c = (-1) := by unfold xpBuys; rw [if_neg q1, if_neg q2, if_neg q3]
        rw [e9]
        exact mjGo.ret 2 (fun _ => rfl) rfl
def mpBuys (I : Nat → Nat → Int32) (m w a c : Int32) : Int32 := if (mMin m) = 0 then (-1) else (if (mIn w 0 60) = 0 then (-1) else (if (mIn a 0 12) = 0 then (-1) else (if (mIn c 0 9) ≠ 0 then (if (mIsS I m w a c) = 0 then 0 else 1) else (-1))))
theorem c_mpBuys (d : Nat) {I : Nat → Nat → Int32} {X : MX} (m w a c : Int32) : mjEv (d + 2) nyX12_buys [.ref 43, .int m, .int w, .int a, .int c] (mjH I X) (.inl (some (.int (mpBuys I m w a c)))) (mjH I X) := by
  refine mjEv.of ?_
  show mjGo (d + 2) nyX12_buys 0 ([some (.ref 43), some (.int m), some (.int w), some (.int a), some (.int c)], [], mjH I X) _
  refine mjGo.run 1 (pc' := 1) (F' := ([some (.ref 43), some (.int m), some (.int w), some (.int a), some (.int c)], [.int m], mjH I X)) (fun _ => rfl) ?_
  refine mjGo.call (n := 1) (j := 133) (nx := 4) (o := some (.int (mMin m))) (h' := mjH I X) (fun _ => rfl) (c_mMin d m _) ?_
  show mjGo _ _ 4 ([some (.ref 43), some (.int m), some (.int w), some (.int a), some (.int c)], [.int (mMin m)], mjH I X) _
  refine mjGo.run 1 (pc' := (bif decide ((mMin m) = 0) then 38 else 7)) (F' := ([some (.ref 43), some (.int m), some (.int w), some (.int a), some (.int c)], [], mjH I X)) (fun _ => rfl) ?_
  refine mjGo.br (fun q1 => ?_) (fun q1 => ?_)
  · show mjGo _ _ 38 _ _
    have e9 : mpBuys I m w a c = (-1) := by unfold mpBuys; rw [if_pos q1]
    rw [e9]
    exact mjGo.ret 2 (fun _ => rfl) rfl
  · show mjGo _ _ 7 _ _
    refine mjGo.run 3 (pc' := 11) (F' := ([some (.ref 43), some (.int m), some (.int w), some (.int a), some (.int c)], [.int 60, .int 0, .int w], mjH I X)) (fun _ => rfl) ?_
    refine mjGo.call (n := 3) (j := 132) (nx := 14) (o := some (.int (mIn w 0 60))) (h' := mjH I X) (fun _ => rfl) (c_mIn (d + 1) w 0 60 _) ?_
    show mjGo _ _ 14 ([some (.ref 43), some (.int m), some (.int w), some (.int a), some (.int c)], [.int (mIn w 0 60)], mjH I X) _
    refine mjGo.run 1 (pc' := (bif decide ((mIn w 0 60) = 0) then 38 else 17)) (F' := ([some (.ref 43), some (.int m), some (.int w), some (.int a), some (.int c)], [], mjH I X)) (fun _ => rfl) ?_
    refine mjGo.br (fun q2 => ?_) (fun q2 => ?_)
    · show mjGo _ _ 38 _ _
      have e9 : mpBuys I m w a c = (-1) := by unfold mpBuys; rw [if_neg q1, if_pos q2]
      rw [e9]
      exact mjGo.ret 2 (fun _ => rfl) rfl
    · show mjGo _ _ 17 _ _
      refine mjGo.run 3 (pc' := 21) (F' := ([some (.ref 43), some (.int m), some (.int w), some (.int a), some (.int c)], [.int 12, .int 0, .int a], mjH I X)) (fun _ => rfl) ?_
      refine mjGo.call (n := 3) (j := 132) (nx := 24) (o := some (.int (mIn a 0 12))) (h' := mjH I X) (fun _ => rfl) (c_mIn (d + 1) a 0 12 _) ?_
      show mjGo _ _ 24 ([some (.ref 43), some (.int m), some (.int w), some (.int a), some (.int c)], [.int (mIn a 0 12)], mjH I X) _
      refine mjGo.run 1 (pc' := (bif decide ((mIn a 0 12) = 0) then 38 else 27)) (F' := ([some (.ref 43), some (.int m), some (.int w), some (.int a), some (.int c)], [], mjH I X)) (fun _ => rfl) ?_
      refine mjGo.br (fun q3 => ?_) (fun q3 => ?_)
      · show mjGo _ _ 38 _ _
        have e9 : mpBuys I m w a c = (-1) := by unfold mpBuys; rw [if_neg q1, if_neg q2, if_pos q3]
        rw [e9]
        exact mjGo.ret 2 (fun _ => rfl) rfl
      · show mjGo _ _ 27 _ _
        refine mjGo.run 3 (pc' := 32) (F' := ([some (.ref 43), some (.int m), some (.int w), some (.int a), some (.int c)], [.int 9, .int 0, .int c], mjH I X)) (fun _ => rfl) ?_
        refine mjGo.call (n := 3) (j := 132) (nx := 35) (o := some (.int (mIn c 0 9))) (h' := mjH I X) (fun _ => rfl) (c_mIn (d + 1) c 0 9 _) ?_
        show mjGo _ _ 35 ([some (.ref 43), some (.int m), some (.int w), some (.int a), some (.int c)], [.int (mIn c 0 9)], mjH I X) _
        refine mjGo.run 1 (pc' := (bif decide ((mIn c 0 9) ≠ 0) then 40 else 38)) (F' := ([some (.ref 43), some (.int m), some (.int w), some (.int a), some (.int c)], [], mjH I X)) (fun _ => rfl) ?_
        refine mjGo.br (fun q4 => ?_) (fun q4 => ?_)
        · show mjGo _ _ 40 _ _
          refine mjGo.run 5 (pc' := 46) (F' := ([some (.ref 43), some (.int m), some (.int w), some (.int a), some (.int c)], [.int c, .int a, .int w, .int m, .ref 43], mjH I X)) (fun _ => rfl) ?_
          refine mjGo.call (n := 5) (j := 167) (nx := 49) (o := some (.int (mIsS I m w a c))) (h' := mjH I X) (fun _ => rfl) (c_mIsS d m w a c) ?_
          show mjGo _ _ 49 ([some (.ref 43), some (.int m), some (.int w), some (.int a), some (.int c)], [.int (mIsS I m w a c)], mjH I X) _
          refine mjGo.run 1 (pc' := (bif decide ((mIsS I m w a c) = 0) then 56 else 52)) (F' := ([some (.ref 43), some (.int m), some (.int w), some (.int a), some (.int c)], [], mjH I X)) (fun _ => rfl) ?_
          refine mjGo.br (fun q5 => ?_) (fun q5 => ?_)
          · show mjGo _ _ 56 _ _
            have e9 : mpBuys I m w a c = 0 := by unfold mpBuys; rw [if_neg q1, if_neg q2, if_neg q3, if_pos q4, if_pos q5]
            rw [e9]
            exact mjGo.ret 2 (fun _ => rfl) rfl
          · show mjGo _ _ 52 _ _
            have e9 : mpBuys I m w a c = 1 := by unfold mpBuys; rw [if_neg q1, if_neg q2, if_neg q3, if_pos q4, if_neg q5]
            rw [e9]
            exact mjGo.ret 3 (fun _ => rfl) rfl
        · show mjGo _ _ 38 _ _
          have e9 : mpBuys I m w a c = (-1) := by unfold mpBuys; rw [if_neg q1, if_neg q2, if_neg q3, if_neg q4]
          rw [e9]
          exact mjGo.ret 2 (fun _ => rfl) rfl
def xpCheaper (I : Nat → Nat → Int32) (m : Int32) : Int32 := if (xMin m) ≠ 0 then (mjmin (xPrice m (I 1 8)) (xOther m (I 1 8))) else (-1)
theorem c_xpCheaper (d : Nat) {I : Nat → Nat → Int32} {X : MX} (m : Int32) : mjEv (d + 2) nyX11_cheaper [.ref 0, .int m] (mjH I X) (.inl (some (.int (xpCheaper I m)))) (mjH I X) := by
  refine mjEv.of ?_
  show mjGo (d + 2) nyX11_cheaper 0 ([some (.ref 0), some (.int m)], [], mjH I X) _
  refine mjGo.run 1 (pc' := 1) (F' := ([some (.ref 0), some (.int m)], [.int m], mjH I X)) (fun _ => rfl) ?_
  refine mjGo.call (n := 1) (j := 69) (nx := 4) (o := some (.int (xMin m))) (h' := mjH I X) (fun _ => rfl) (c_xMin (d + 1) m _) ?_
  show mjGo _ _ 4 ([some (.ref 0), some (.int m)], [.int (xMin m)], mjH I X) _
  refine mjGo.run 1 (pc' := (bif decide ((xMin m) ≠ 0) then 9 else 7)) (F' := ([some (.ref 0), some (.int m)], [], mjH I X)) (fun _ => rfl) ?_
  refine mjGo.br (fun q1 => ?_) (fun q1 => ?_)
  · show mjGo _ _ 9 _ _
    refine mjGo.run 4 (pc' := 17) (F' := ([some (.ref 0), some (.int m)], [.int (I 1 8), .int m], mjH I X)) (fun _ => rfl) ?_
    refine mjGo.call (n := 2) (j := 19) (nx := 20) (o := some (.int (xPrice m (I 1 8)))) (h' := mjH I X) (fun _ => rfl) (c_xPrice (d + 1) m (I 1 8) _) ?_
    show mjGo _ _ 20 ([some (.ref 0), some (.int m)], [.int (xPrice m (I 1 8))], mjH I X) _
    refine mjGo.run 4 (pc' := 28) (F' := ([some (.ref 0), some (.int m)], [.int (I 1 8), .int m, .int (xPrice m (I 1 8))], mjH I X)) (fun _ => rfl) ?_
    refine mjGo.call (n := 2) (j := 112) (nx := 31) (o := some (.int (xOther m (I 1 8)))) (h' := mjH I X) (fun _ => rfl) (c_xOther d m (I 1 8) _) ?_
    show mjGo _ _ 31 ([some (.ref 0), some (.int m)], [.int (xOther m (I 1 8)), .int (xPrice m (I 1 8))], mjH I X) _
    have e9 : xpCheaper I m = (mjmin (xPrice m (I 1 8)) (xOther m (I 1 8))) := by unfold xpCheaper; rw [if_pos q1]
    rw [e9]
    exact mjGo.ret 2 (fun _ => rfl) rfl
  · show mjGo _ _ 7 _ _
    have e9 : xpCheaper I m = (-1) := by unfold xpCheaper; rw [if_neg q1]
    rw [e9]
    exact mjGo.ret 2 (fun _ => rfl) rfl
def mpCheaper (I : Nat → Nat → Int32) (m : Int32) : Int32 := if (mMin m) = 0 then (-1) else (mjmin (mPrice (I 44 3) m) (mOther I m))
theorem c_mpCheaper (d : Nat) {I : Nat → Nat → Int32} {X : MX} (m : Int32) : mjEv (d + 2) nyX12_cheaper [.ref 43, .int m] (mjH I X) (.inl (some (.int (mpCheaper I m)))) (mjH I X) := by
  refine mjEv.of ?_
  show mjGo (d + 2) nyX12_cheaper 0 ([some (.ref 43), some (.int m)], [], mjH I X) _
  refine mjGo.run 1 (pc' := 1) (F' := ([some (.ref 43), some (.int m)], [.int m], mjH I X)) (fun _ => rfl) ?_
  refine mjGo.call (n := 1) (j := 133) (nx := 4) (o := some (.int (mMin m))) (h' := mjH I X) (fun _ => rfl) (c_mMin d m _) ?_
  show mjGo _ _ 4 ([some (.ref 43), some (.int m)], [.int (mMin m)], mjH I X) _
  refine mjGo.run 1 (pc' := (bif decide ((mMin m) = 0) then 28 else 7)) (F' := ([some (.ref 43), some (.int m)], [], mjH I X)) (fun _ => rfl) ?_
  refine mjGo.br (fun q1 => ?_) (fun q1 => ?_)
  · show mjGo _ _ 28 _ _
    have e9 : mpCheaper I m = (-1) := by unfold mpCheaper; rw [if_pos q1]
    rw [e9]
    exact mjGo.ret 2 (fun _ => rfl) rfl
  · show mjGo _ _ 7 _ _
    refine mjGo.run 5 (pc' := 14) (F' := ([some (.ref 43), some (.int m)], [.int m, .int (I 44 3)], mjH I X)) (fun _ => rfl) ?_
    refine mjGo.call (n := 2) (j := 139) (nx := 17) (o := some (.int (mPrice (I 44 3) m))) (h' := mjH I X) (fun _ => rfl) (c_mPrice (d + 1) (I 44 3) m _) ?_
    show mjGo _ _ 17 ([some (.ref 43), some (.int m)], [.int (mPrice (I 44 3) m)], mjH I X) _
    refine mjGo.run 2 (pc' := 19) (F' := ([some (.ref 43), some (.int m)], [.int m, .ref 43, .int (mPrice (I 44 3) m)], mjH I X)) (fun _ => rfl) ?_
    refine mjGo.call (n := 2) (j := 170) (nx := 22) (o := some (.int (mOther I m))) (h' := mjH I X) (fun _ => rfl) (c_mOther d m) ?_
    show mjGo _ _ 22 ([some (.ref 43), some (.int m)], [.int (mOther I m), .int (mPrice (I 44 3) m)], mjH I X) _
    have e9 : mpCheaper I m = (mjmin (mPrice (I 44 3) m) (mOther I m)) := by unfold mpCheaper; rw [if_neg q1]
    rw [e9]
    exact mjGo.ret 3 (fun _ => rfl) rfl
def xpRest (I : Nat → Nat → Int32) (m w c : Int32) : Int32 := if (xOffer m w c) ≠ 0 then (if 0 ≤ (((xPrice m (I 1 8)) - (w * c)) - 1) then (mjmin (((xPrice m (I 1 8)) - (w * c)) - 1) 12) else (-4)) else (-1)
theorem c_xpRest (d : Nat) {I : Nat → Nat → Int32} {X : MX} (m w c : Int32) : mjEv (d + 2) nyX11_rest [.ref 0, .int m, .int w, .int c] (mjH I X) (.inl (some (.int (xpRest I m w c)))) (mjH I X) := by
  refine mjEv.of ?_
  show mjGo (d + 2) nyX11_rest 0 ([some (.ref 0), some (.int m), some (.int w), some (.int c), none], [], mjH I X) _
  refine mjGo.run 3 (pc' := 3) (F' := ([some (.ref 0), some (.int m), some (.int w), some (.int c), none], [.int c, .int w, .int m], mjH I X)) (fun _ => rfl) ?_
  refine mjGo.call (n := 3) (j := 109) (nx := 6) (o := some (.int (xOffer m w c))) (h' := mjH I X) (fun _ => rfl) (c_xOffer d m w c _) ?_
  show mjGo _ _ 6 ([some (.ref 0), some (.int m), some (.int w), some (.int c), none], [.int (xOffer m w c)], mjH I X) _
  refine mjGo.run 1 (pc' := (bif decide ((xOffer m w c) ≠ 0) then 11 else 9)) (F' := ([some (.ref 0), some (.int m), some (.int w), some (.int c), none], [], mjH I X)) (fun _ => rfl) ?_
  refine mjGo.br (fun q1 => ?_) (fun q1 => ?_)
  · show mjGo _ _ 11 _ _
    refine mjGo.run 4 (pc' := 19) (F' := ([some (.ref 0), some (.int m), some (.int w), some (.int c), none], [.int (I 1 8), .int m], mjH I X)) (fun _ => rfl) ?_
    refine mjGo.call (n := 2) (j := 19) (nx := 22) (o := some (.int (xPrice m (I 1 8)))) (h' := mjH I X) (fun _ => rfl) (c_xPrice (d + 1) m (I 1 8) _) ?_
    show mjGo _ _ 22 ([some (.ref 0), some (.int m), some (.int w), some (.int c), none], [.int (xPrice m (I 1 8))], mjH I X) _
    refine mjGo.run 9 (pc' := (bif decide (0 ≤ (((xPrice m (I 1 8)) - (w * c)) - 1)) then 40 else 35)) (F' := ([some (.ref 0), some (.int m), some (.int w), some (.int c), some (.int (((xPrice m (I 1 8)) - (w * c)) - 1))], [], mjH I X)) (fun _ => rfl) ?_
    refine mjGo.br (fun q2 => ?_) (fun q2 => ?_)
    · show mjGo _ _ 40 _ _
      have e9 : xpRest I m w c = (mjmin (((xPrice m (I 1 8)) - (w * c)) - 1) 12) := by unfold xpRest; rw [if_pos q1, if_pos q2]
      rw [e9]
      exact mjGo.ret 4 (fun _ => rfl) rfl
    · show mjGo _ _ 35 _ _
      have e9 : xpRest I m w c = (-4) := by unfold xpRest; rw [if_pos q1, if_neg q2]
      rw [e9]
      exact mjGo.ret 3 (fun _ => rfl) rfl
  · show mjGo _ _ 9 _ _
    have e9 : xpRest I m w c = (-1) := by unfold xpRest; rw [if_neg q1]
    rw [e9]
    exact mjGo.ret 2 (fun _ => rfl) rfl
def xNineL (I : Nat → Nat → Int32) (m v p : Int32) : Nat → Nat → Int32
  | 0, j => (-4)
  | k + 1, j => if v < (xPart p (nI j)) then (xNineL I m v p k (j + 1)) else ((nI j))
theorem l_xNineL (d : Nat) {I : Nat → Nat → Int32} {X : MX} (m v p : Int32) : ∀ (k j : Nat) , j + k = 10 → mjGo (d + 1) nyX11_nine 35 ([some (.ref 0), some (.int m), some (.int v), some (.int p), some (.int (nI j))], [], mjH I X) (fun x => x = (.inl (some (.int (xNineL I m v p k j))), mjH I X)) := by
  intro k
  induction k with
  | zero =>
    intro j hj
    refine mjGo.run 2 (pc' := 39) (F' := ([some (.ref 0), some (.int m), some (.int v), some (.int p), some (.int (nI j))], [.int 9, .int (nI j)], mjH I X)) (fun _ => rfl) ?_
    refine mjGo.run 1 (pc' := (bif decide (9 < (nI j)) then 61 else 42)) (F' := ([some (.ref 0), some (.int m), some (.int v), some (.int p), some (.int (nI j))], [], mjH I X)) (fun _ => rfl) ?_
    refine mjGo.brT (show 9 < (nI j) by rw [show (9 : Int32) = nI 9 from rfl, nI_ltI (by omega) (by omega)]; omega) ?_
    show mjGo _ _ 61 _ _
    have e9 : xNineL I m v p 0 j = (-4) := by rw [xNineL]
    rw [e9]
    exact mjGo.ret 2 (fun _ => rfl) rfl
  | succ k ih =>
    intro j hj
    refine mjGo.run 2 (pc' := 39) (F' := ([some (.ref 0), some (.int m), some (.int v), some (.int p), some (.int (nI j))], [.int 9, .int (nI j)], mjH I X)) (fun _ => rfl) ?_
    refine mjGo.run 1 (pc' := (bif decide (9 < (nI j)) then 61 else 42)) (F' := ([some (.ref 0), some (.int m), some (.int v), some (.int p), some (.int (nI j))], [], mjH I X)) (fun _ => rfl) ?_
    refine mjGo.brF (show ¬ 9 < (nI j) by rw [show (9 : Int32) = nI 9 from rfl, nI_ltI (by omega) (by omega)]; omega) ?_
    show mjGo _ _ 42 _ _
    refine mjGo.run 2 (pc' := 45) (F' := ([some (.ref 0), some (.int m), some (.int v), some (.int p), some (.int (nI j))], [.int (nI j), .int p], mjH I X)) (fun _ => rfl) ?_
    refine mjGo.call (n := 2) (j := 37) (nx := 48) (o := some (.int (xPart p (nI j)))) (h' := mjH I X) (fun _ => rfl) (c_xPart d p (nI j) _) ?_
    show mjGo _ _ 48 ([some (.ref 0), some (.int m), some (.int v), some (.int p), some (.int (nI j))], [.int (xPart p (nI j))], mjH I X) _
    refine mjGo.run 2 (pc' := (bif decide (v < (xPart p (nI j))) then 55 else 52)) (F' := ([some (.ref 0), some (.int m), some (.int v), some (.int p), some (.int (nI j))], [], mjH I X)) (fun _ => rfl) ?_
    refine mjGo.br (fun q1 => ?_) (fun q1 => ?_)
    · show mjGo _ _ 55 _ _
      refine mjGo.run 2 (pc' := 35) (F' := ([some (.ref 0), some (.int m), some (.int v), some (.int p), some (.int ((nI j) + 1))], [], mjH I X)) (fun _ => rfl) ?_
      have e9 : xNineL I m v p (k + 1) j = xNineL I m v p k (j + 1) := by rw [xNineL, if_pos q1]
      rw [e9]
      have k9 := ih (j + 1) (by omega)
      rw [← nI_1] at k9
      exact k9
    · show mjGo _ _ 52 _ _
      have e9 : xNineL I m v p (k + 1) j = (nI j) := by rw [xNineL, if_neg q1]
      rw [e9]
      exact mjGo.ret 2 (fun _ => rfl) rfl
def xpNine (I : Nat → Nat → Int32) (m v : Int32) : Int32 := if (xMin m) = 0 then (-1) else (if v < 1 then (-1) else (if v ≤ 20 then xNineL I m v (xPrice m (I 1 8)) 9 1 else (-1)))
theorem c_xpNine (d : Nat) {I : Nat → Nat → Int32} {X : MX} (m v : Int32) : mjEv (d + 1) nyX11_nine [.ref 0, .int m, .int v] (mjH I X) (.inl (some (.int (xpNine I m v)))) (mjH I X) := by
  refine mjEv.of ?_
  show mjGo (d + 1) nyX11_nine 0 ([some (.ref 0), some (.int m), some (.int v), none, none], [], mjH I X) _
  refine mjGo.run 1 (pc' := 1) (F' := ([some (.ref 0), some (.int m), some (.int v), none, none], [.int m], mjH I X)) (fun _ => rfl) ?_
  refine mjGo.call (n := 1) (j := 69) (nx := 4) (o := some (.int (xMin m))) (h' := mjH I X) (fun _ => rfl) (c_xMin d m _) ?_
  show mjGo _ _ 4 ([some (.ref 0), some (.int m), some (.int v), none, none], [.int (xMin m)], mjH I X) _
  refine mjGo.run 1 (pc' := (bif decide ((xMin m) = 0) then 18 else 7)) (F' := ([some (.ref 0), some (.int m), some (.int v), none, none], [], mjH I X)) (fun _ => rfl) ?_
  refine mjGo.br (fun q1 => ?_) (fun q1 => ?_)
  · show mjGo _ _ 18 _ _
    have e9 : xpNine I m v = (-1) := by unfold xpNine; rw [if_pos q1]
    rw [e9]
    exact mjGo.ret 2 (fun _ => rfl) rfl
  · show mjGo _ _ 7 _ _
    refine mjGo.run 3 (pc' := (bif decide (v < 1) then 18 else 12)) (F' := ([some (.ref 0), some (.int m), some (.int v), none, none], [], mjH I X)) (fun _ => rfl) ?_
    refine mjGo.br (fun q2 => ?_) (fun q2 => ?_)
    · show mjGo _ _ 18 _ _
      have e9 : xpNine I m v = (-1) := by unfold xpNine; rw [if_neg q1, if_pos q2]
      rw [e9]
      exact mjGo.ret 2 (fun _ => rfl) rfl
    · show mjGo _ _ 12 _ _
      refine mjGo.run 3 (pc' := (bif decide (v ≤ 20) then 20 else 18)) (F' := ([some (.ref 0), some (.int m), some (.int v), none, none], [], mjH I X)) (fun _ => rfl) ?_
      refine mjGo.br (fun q3 => ?_) (fun q3 => ?_)
      · show mjGo _ _ 20 _ _
        refine mjGo.run 4 (pc' := 28) (F' := ([some (.ref 0), some (.int m), some (.int v), none, none], [.int (I 1 8), .int m], mjH I X)) (fun _ => rfl) ?_
        refine mjGo.call (n := 2) (j := 19) (nx := 31) (o := some (.int (xPrice m (I 1 8)))) (h' := mjH I X) (fun _ => rfl) (c_xPrice d m (I 1 8) _) ?_
        show mjGo _ _ 31 ([some (.ref 0), some (.int m), some (.int v), none, none], [.int (xPrice m (I 1 8))], mjH I X) _
        refine mjGo.run 3 (pc' := 35) (F' := ([some (.ref 0), some (.int m), some (.int v), some (.int (xPrice m (I 1 8))), some (.int 1)], [], mjH I X)) (fun _ => rfl) ?_
        have e9 : xpNine I m v = xNineL I m v (xPrice m (I 1 8)) 9 1 := by unfold xpNine; rw [if_neg q1, if_neg q2, if_pos q3]
        rw [e9]
        exact l_xNineL d m v (xPrice m (I 1 8)) 9 1 (by omega)
      · show mjGo _ _ 18 _ _
        have e9 : xpNine I m v = (-1) := by unfold xpNine; rw [if_neg q1, if_neg q2, if_neg q3]
        rw [e9]
        exact mjGo.ret 2 (fun _ => rfl) rfl
def mNineL (I : Nat → Nat → Int32) (m v : Int32) : Nat → Nat → Int32
  | 0, j => (-4)
  | k + 1, j => if v < (mShare I (mPrice (I 44 3) m) (nI j)) then (mNineL I m v k (j + 1)) else ((nI j))
theorem l_mNineL (d : Nat) {I : Nat → Nat → Int32} {X : MX} (m v : Int32) : ∀ (k j : Nat) , j + k = 10 ∧ 1 ≤ j → mjGo (d + 1) nyX12_nine 21 ([some (.ref 43), some (.int m), some (.int v), some (.int (nI j))], [], mjH I X) (fun x => x = (.inl (some (.int (mNineL I m v k j))), mjH I X)) := by
  intro k
  induction k with
  | zero =>
    intro j hj
    refine mjGo.run 2 (pc' := 24) (F' := ([some (.ref 43), some (.int m), some (.int v), some (.int (nI j))], [.int 10, .int (nI j)], mjH I X)) (fun _ => rfl) ?_
    refine mjGo.run 1 (pc' := (bif decide (10 ≤ (nI j)) then 53 else 27)) (F' := ([some (.ref 43), some (.int m), some (.int v), some (.int (nI j))], [], mjH I X)) (fun _ => rfl) ?_
    refine mjGo.brT (show 10 ≤ (nI j) by rw [show (10 : Int32) = nI 10 from rfl, nI_leI (by omega) (by omega)]; omega) ?_
    show mjGo _ _ 53 _ _
    have e9 : mNineL I m v 0 j = (-4) := by rw [mNineL]
    rw [e9]
    exact mjGo.ret 2 (fun _ => rfl) rfl
  | succ k ih =>
    intro j hj
    refine mjGo.run 2 (pc' := 24) (F' := ([some (.ref 43), some (.int m), some (.int v), some (.int (nI j))], [.int 10, .int (nI j)], mjH I X)) (fun _ => rfl) ?_
    refine mjGo.run 1 (pc' := (bif decide (10 ≤ (nI j)) then 53 else 27)) (F' := ([some (.ref 43), some (.int m), some (.int v), some (.int (nI j))], [], mjH I X)) (fun _ => rfl) ?_
    refine mjGo.brF (show ¬ 10 ≤ (nI j) by rw [show (10 : Int32) = nI 10 from rfl, nI_leI (by omega) (by omega)]; omega) ?_
    show mjGo _ _ 27 _ _
    refine mjGo.run 5 (pc' := 34) (F' := ([some (.ref 43), some (.int m), some (.int v), some (.int (nI j))], [.int m, .int (I 44 3)], mjH I X)) (fun _ => rfl) ?_
    refine mjGo.call (n := 2) (j := 139) (nx := 37) (o := some (.int (mPrice (I 44 3) m))) (h' := mjH I X) (fun _ => rfl) (c_mPrice d (I 44 3) m _) ?_
    show mjGo _ _ 37 ([some (.ref 43), some (.int m), some (.int v), some (.int (nI j))], [.int (mPrice (I 44 3) m)], mjH I X) _
    refine mjGo.run 1 (pc' := 38) (F' := ([some (.ref 43), some (.int m), some (.int v), some (.int (nI j))], [.int (nI j), .int (mPrice (I 44 3) m)], mjH I X)) (fun _ => rfl) ?_
    refine mjGo.call (n := 2) (j := 164) (nx := 41) (o := some (.int (mShare I (mPrice (I 44 3) m) (nI j)))) (h' := mjH I X) (fun _ => rfl) (c_mShare d (mPrice (I 44 3) m) (nI j) (show ¬ nI j = 0 from nI_ne0 (by omega) (by omega))) ?_
    show mjGo _ _ 41 ([some (.ref 43), some (.int m), some (.int v), some (.int (nI j))], [.int (mShare I (mPrice (I 44 3) m) (nI j))], mjH I X) _
    refine mjGo.run 2 (pc' := (bif decide (v < (mShare I (mPrice (I 44 3) m) (nI j))) then 47 else 45)) (F' := ([some (.ref 43), some (.int m), some (.int v), some (.int (nI j))], [], mjH I X)) (fun _ => rfl) ?_
    refine mjGo.br (fun q1 => ?_) (fun q1 => ?_)
    · show mjGo _ _ 47 _ _
      refine mjGo.run 2 (pc' := 21) (F' := ([some (.ref 43), some (.int m), some (.int v), some (.int ((nI j) + 1))], [], mjH I X)) (fun _ => rfl) ?_
      have e9 : mNineL I m v (k + 1) j = mNineL I m v k (j + 1) := by rw [mNineL, if_pos q1]
      rw [e9]
      have k9 := ih (j + 1) (by omega)
      rw [← nI_1] at k9
      exact k9
    · show mjGo _ _ 45 _ _
      have e9 : mNineL I m v (k + 1) j = (nI j) := by rw [mNineL, if_neg q1]
      rw [e9]
      exact mjGo.ret 2 (fun _ => rfl) rfl
