/-! calls on prices -/
def mIsS (I : Nat → Nat → Int32) (m w a c : Int32) : Int32 := if (mPrice (I 44 3) m) ≤ (a + (w * c)) then 0 else 1
theorem z_mIsS (I : Nat → Nat → Int32) (m w a c : Int32) : mIsS I m w a c = 0 ∨ mIsS I m w a c = 1 := by
  unfold mIsS
  repeat' split
  all_goals first | exact Or.inl rfl | exact Or.inr rfl | exact z_mIn _ _ _ | exact z_mMin _ | exact z_mClock _ | exact z_xMin _ | exact z_xShelf _ | exact z_xOffer _ _ _ | exact z_xDigit _ | exact z_xC4 | exact z_xC0 | exact z_mIsW _ _ | exact z_mIsL _ _
theorem c_mIsS (d : Nat) {I : Nat → Nat → Int32} {X : MX} (m w a c : Int32) : mjEv (d + 1) nyX12_isSold [.ref 43, .int m, .int w, .int a, .int c] (mjH I X) (.inl (some (.int (mIsS I m w a c)))) (mjH I X) := by
  refine mjEv.of ?_
  show mjGo (d + 1) nyX12_isSold 0 ([some (.ref 43), some (.int m), some (.int w), some (.int a), some (.int c)], [], mjH I X) _
  refine mjGo.run 10 (pc' := 13) (F' := ([some (.ref 43), some (.int m), some (.int w), some (.int a), some (.int c)], [.int m, .int (I 44 3), .int (a + (w * c))], mjH I X)) (fun _ => rfl) ?_
  refine mjGo.call (n := 2) (j := 139) (nx := 16) (o := some (.int (mPrice (I 44 3) m))) (h' := mjH I X) (fun _ => rfl) (c_mPrice d (I 44 3) m _) ?_
  show mjGo _ _ 16 ([some (.ref 43), some (.int m), some (.int w), some (.int a), some (.int c)], [.int (mPrice (I 44 3) m), .int (a + (w * c))], mjH I X) _
  refine mjGo.run 1 (pc' := (bif decide ((mPrice (I 44 3) m) ≤ (a + (w * c))) then 23 else 19)) (F' := ([some (.ref 43), some (.int m), some (.int w), some (.int a), some (.int c)], [], mjH I X)) (fun _ => rfl) ?_
  refine mjGo.br (fun q1 => ?_) (fun q1 => ?_)
  · show mjGo _ _ 23 _ _
    have e9 : mIsS I m w a c = 0 := by unfold mIsS; rw [if_pos q1]
    rw [e9]
    exact mjGo.ret 2 (fun _ => rfl) rfl
  · show mjGo _ _ 19 _ _
    have e9 : mIsS I m w a c = 1 := by unfold mIsS; rw [if_neg q1]
    rw [e9]
    exact mjGo.ret 3 (fun _ => rfl) rfl
def mOther (I : Nat → Nat → Int32) (m : Int32) : Int32 := (mPrice (I 44 3) ((m + 60) - (m + 60) / 720 * 720))
theorem c_mOther (d : Nat) {I : Nat → Nat → Int32} {X : MX} (m : Int32) : mjEv (d + 1) nyX12_otherPrice [.ref 43, .int m] (mjH I X) (.inl (some (.int (mOther I m)))) (mjH I X) := by
  refine mjEv.of ?_
  show mjGo (d + 1) nyX12_otherPrice 0 ([some (.ref 43), some (.int m)], [], mjH I X) _
  refine mjGo.run 9 (pc' := 14) (F' := ([some (.ref 43), some (.int m)], [.int ((m + 60) - (m + 60) / 720 * 720), .int (I 44 3)], mjH I X)) (fun _ => rfl) ?_
  refine mjGo.call (n := 2) (j := 139) (nx := 17) (o := some (.int (mPrice (I 44 3) ((m + 60) - (m + 60) / 720 * 720)))) (h' := mjH I X) (fun _ => rfl) (c_mPrice d (I 44 3) ((m + 60) - (m + 60) / 720 * 720) _) ?_
  show mjGo _ _ 17 ([some (.ref 43), some (.int m)], [.int (mPrice (I 44 3) ((m + 60) - (m + 60) / 720 * 720))], mjH I X) _
  have e9 : mOther I m = (mPrice (I 44 3) ((m + 60) - (m + 60) / 720 * 720)) := by unfold mOther; rfl
  rw [e9]
  exact mjGo.ret 1 (fun _ => rfl) rfl
def xpBuys (I : Nat → Nat → Int32) (m w a c : Int32) : Int32 := if (xOffer m w c) = 0 then (-1) else (if a < 0 then (-1) else (if a ≤ 12 then (if (xPrice m (I 1 8)) ≤ (a + (w * c)) then 0 else 1) else (-1)))
theorem c_xpBuys (d : Nat) {I : Nat → Nat → Int32} {X : MX} (m w a c : Int32) : mjEv (d + 2) nyX11_buys [.ref 0, .int m, .int w, .int a, .int c] (mjH I X) (.inl (some (.int (xpBuys I m w a c)))) (mjH I X) := by
  refine mjEv.of ?_
  show mjGo (d + 2) nyX11_buys 0 ([some (.ref 0), some (.int m), some (.int w), some (.int a), some (.int c)], [], mjH I X) _
  refine mjGo.run 3 (pc' := 4) (F' := ([some (.ref 0), some (.int m), some (.int w), some (.int a), some (.int c)], [.int c, .int w, .int m], mjH I X)) (fun _ => rfl) ?_
  refine mjGo.call (n := 3) (j := 109) (nx := 7) (o := some (.int (xOffer m w c))) (h' := mjH I X) (fun _ => rfl) (c_xOffer d m w c _) ?_
  show mjGo _ _ 7 ([some (.ref 0), some (.int m), some (.int w), some (.int a), some (.int c)], [.int (xOffer m w c)], mjH I X) _
  refine mjGo.run 1 (pc' := (bif decide ((xOffer m w c) = 0) then 20 else 10)) (F' := ([some (.ref 0), some (.int m), some (.int w), some (.int a), some (.int c)], [], mjH I X)) (fun _ => rfl) ?_
  refine mjGo.br (fun q1 => ?_) (fun q1 => ?_)
  · show mjGo _ _ 20 _ _
    have e9 : xpBuys I m w a c = (-1) := by unfold xpBuys; rw [if_pos q1]
    rw [e9]
    exact mjGo.ret 2 (fun _ => rfl) rfl
  · show mjGo _ _ 10 _ _
    refine mjGo.run 2 (pc' := (bif decide (a < 0) then 20 else 14)) (F' := ([some (.ref 0), some (.int m), some (.int w), some (.int a), some (.int c)], [], mjH I X)) (fun _ => rfl) ?_
    refine mjGo.br (fun q2 => ?_) (fun q2 => ?_)
    · show mjGo _ _ 20 _ _
      have e9 : xpBuys I m w a c = (-1) := by unfold xpBuys; rw [if_neg q1, if_pos q2]
      rw [e9]
      exact mjGo.ret 2 (fun _ => rfl) rfl
    · show mjGo _ _ 14 _ _
      refine mjGo.run 3 (pc' := (bif decide (a ≤ 12) then 22 else 20)) (F' := ([some (.ref 0), some (.int m), some (.int w), some (.int a), some (.int c)], [], mjH I X)) (fun _ => rfl) ?_
      refine mjGo.br (fun q3 => ?_) (fun q3 => ?_)
      · show mjGo _ _ 22 _ _
        refine mjGo.run 9 (pc' := 36) (F' := ([some (.ref 0), some (.int m), some (.int w), some (.int a), some (.int c)], [.int (I 1 8), .int m, .int (a + (w * c))], mjH I X)) (fun _ => rfl) ?_
        refine mjGo.call (n := 2) (j := 19) (nx := 39) (o := some (.int (xPrice m (I 1 8)))) (h' := mjH I X) (fun _ => rfl) (c_xPrice (d + 1) m (I 1 8) _) ?_
        show mjGo _ _ 39 ([some (.ref 0), some (.int m), some (.int w), some (.int a), some (.int c)], [.int (xPrice m (I 1 8)), .int (a + (w * c))], mjH I X) _
        refine mjGo.run 1 (pc' := (bif decide ((xPrice m (I 1 8)) ≤ (a + (w * c))) then 46 else 42)) (F' := ([some (.ref 0), some (.int m), some (.int w), some (.int a), some (.int c)], [], mjH I X)) (fun _ => rfl) ?_
        refine mjGo.br (fun q4 => ?_) (fun q4 => ?_)
        · show mjGo _ _ 46 _ _
          have e9 : xpBuys I m w a c = 0 := by unfold xpBuys; rw [if_neg q1, if_neg q2, if_pos q3, if_pos q4]
          rw [e9]
          exact mjGo.ret 2 (fun _ => rfl) rfl
        · show mjGo _ _ 42 _ _
          have e9 : xpBuys I m w a c = 1 := by unfold xpBuys; rw [if_neg q1, if_neg q2, if_pos q3, if_neg q4]
          rw [e9]
          exact mjGo.ret 3 (fun _ => rfl) rfl
      · show mjGo _ _ 20 _ _
        have e9 : xpBuys I m w a c = (-1) := by unfold xpBuys; rw [if_neg q1, if_neg q2, if_neg q3]
        rw [e9]
        exact mjGo.ret 2 (fun _ => rfl) rfl
def mpBuys (I : Nat → Nat → Int32) (m w a c : Int32) : Int32 := if (mMin m) = 0 then (-1) else (if (mIn w 0 60) = 0 then (-1) else (if (mIn a 0 12) = 0 then (-1) else (if (mIn c 0 9) ≠ 0 then (if (mIsS I m w a c) = 0 then 0 else 1) else (-1))))
theorem c_mpBuys (d : Nat) {I : Nat → Nat → Int32} {X : MX} (m w a c : Int32) : mjEv (d + 2) nyX12_buys [.ref 43, .int m, .int w, .int a, .int c] (mjH I X) (.inl (some (.int (mpBuys I m w a c)))) (mjH I X) := by
  refine mjEv.of ?_
  show mjGo (d + 2) nyX12_buys 0 ([some (.ref 43), some (.int m), some (.int w), some (.int a), some (.int c)], [], mjH I X) _
  refine mjGo.run 1 (pc' := 1) (F' := ([some (.ref 43), some (.int m), some (.int w), some (.int a), some (.int c)], [.int m], mjH I X)) (fun _ => rfl) ?_
  refine mjGo.call (n := 1) (j := 133) (nx := 4) (o := some (.int (mMin m))) (h' := mjH I X) (fun _ => rfl) (c_mMin d m _) ?_
  show mjGo _ _ 4 ([some (.ref 43), some (.int m), some (.int w), some (.int a), some (.int c)], [.int (mMin m)], mjH I X) _
  refine mjGo.run 1 (pc' := (bif decide ((mMin m) = 0) then 38 else 7)) (F' := ([some (.ref 43), some (.int m), some (.int w), some (.int a), some (.int c)], [], mjH I X)) (fun _ => rfl) ?_
  refine mjGo.br (fun q1 => ?_) (fun q1 => ?_)
  · show mjGo _ _ 38 _ _
    have e9 : mpBuys I m w a c = (-1) := by unfold mpBuys; rw [if_pos q1]
    rw [e9]
    exact mjGo.ret 2 (fun _ => rfl) rfl
  · show mjGo _ _ 7 _ _
    refine mjGo.run 3 (pc' := 11) (F' := ([some (.ref 43), some (.int m), some (.int w), some (.int a), some (.int c)], [.int 60, .int 0, .int w], mjH I X)) (fun _ => rfl) ?_
    refine mjGo.call (n := 3) (j := 132) (nx := 14) (o := some (.int (mIn w 0 60))) (h' := mjH I X) (fun _ => rfl) (c_mIn (d + 1) w 0 60 _) ?_
    show mjGo _ _ 14 ([some (.ref 43), some (.int m), some (.int w), some (.int a), some (.int c)], [.int (mIn w 0 60)], mjH I X) _
    refine mjGo.run 1 (pc' := (bif decide ((mIn w 0 60) = 0) then 38 else 17)) (F' := ([some (.ref 43), some (.int m), some (.int w), some (.int a), some (.int c)], [], mjH I X)) (fun _ => rfl) ?_
    refine mjGo.br (fun q2 => ?_) (fun q2 => ?_)
    · show mjGo _ _ 38 _ _
      have e9 : mpBuys I m w a c = (-1) := by unfold mpBuys; rw [if_neg q1, if_pos q2]
      rw [e9]
      exact mjGo.ret 2 (fun _ => rfl) rfl
    · show mjGo _ _ 17 _ _
      refine mjGo.run 3 (pc' := 21) (F' := ([some (.ref 43), some (.int m), some (.int w), some (.int a), some (.int c)], [.int 12, .int 0, .int a], mjH I X)) (fun _ => rfl) ?_
      refine mjGo.call (n := 3) (j := 132) (nx := 24) (o := some (.int (mIn a 0 12))) (h' := mjH I X) (fun _ => rfl) (c_mIn (d + 1) a 0 12 _) ?_
      show mjGo _ _ 24 ([some (.ref 43), some (.int m), some (.int w), some (.int a), some (.int c)], [.int (mIn a 0 12)], mjH I X) _
      refine mjGo.run 1 (pc' := (bif decide ((mIn a 0 12) = 0) then 38 else 27)) (F' := ([some (.ref 43), some (.int m), some (.int w), some (.int a), some (.int c)], [], mjH I X)) (fun _ => rfl) ?_
      refine mjGo.br (fun q3 => ?_) (fun q3 => ?_)
      · show mjGo _ _ 38 _ _
        have e9 : mpBuys I m w a c = (-1) := by unfold mpBuys; rw [if_neg q1, if_neg q2, if_pos q3]
        rw [e9]
        exact mjGo.ret 2 (fun _ => rfl) rfl
      · show mjGo _ _ 27 _ _
        refine mjGo.run 3 (pc' := 32) (F' := ([some (.ref 43), some (.int m), some (.int w), some (.int a), some (.int c)], [.int 9, .int 0, .int c], mjH I X)) (fun _ => rfl) ?_
        refine mjGo.call (n := 3) (j := 132) (nx := 35) (o := some (.int (mIn c 0 9))) (h' := mjH I X) (fun _ => rfl) (c_mIn (d + 1) c 0 9 _) ?_
        show mjGo _ _ 35 ([some (.ref 43), some (.int m), some (.int w), some (.int a), some (.int c)], [.int (mIn c 0 9)], mjH I X) _
        refine mjGo.run 1 (pc' := (bif decide ((mIn c 0 9) ≠ 0) then 40 else 38)) (F' := ([some (.ref 43), some (.int m), some (.int w), some (.int a), some (.int c)], [], mjH I X)) (fun _ => rfl) ?_
        refine mjGo.br (fun q4 => ?_) (fun q4 => ?_)
        · show mjGo _ _ 40 _ _
          refine mjGo.run 5 (pc' := 46) (F' := ([some (.ref 43), some (.int m), some (.int w), some (.int a), some (.int c)], [.int c, .int a, .int w, .int m, .ref 43], mjH I X)) (fun _ => rfl) ?_
          refine mjGo.call (n := 5) (j := 167) (nx := 49) (o := some (.int (mIsS I m w a c))) (h' := mjH I X) (fun _ => rfl) (c_mIsS d m w a c) ?_
          show mjGo _ _ 49 ([some (.ref 43), some (.int m), some (.int w), some (.int a), some (.int c)], [.int (mIsS I m w a c)], mjH I X) _
          refine mjGo.run 1 (pc' := (bif decide ((mIsS I m w a c) = 0) then 56 else 52)) (F' := ([some (.ref 43), some (.int m), some (.int w), some (.int a), some (.int c)], [], mjH I X)) (fun _ => rfl) ?_
          refine mjGo.br (fun q5 => ?_) (fun q5 => ?_)
          · show mjGo _ _ 56 _ _
            have e9 : mpBuys I m w a c = 0 := by unfold mpBuys; rw [if_neg q1, if_neg q2, if_neg q3, if_pos q4, if_pos q5]
            rw [e9]
            exact mjGo.ret 2 (fun _ => rfl) rfl
          · show mjGo _ _ 52 _ _
            have e9 : mpBuys I m w a c = 1 := by unfold mpBuys; rw [if_neg q1, if_neg q2, if_neg q3, if_pos q4, if_neg q5]
            rw [e9]
            exact mjGo.ret 3 (fun _ => rfl) rfl
        · show mjGo _ _ 38 _ _
          have e9 : mpBuys I m w a c = (-1) := by unfold mpBuys; rw [if_neg q1, if_neg q2, if_neg q3, if_neg q4]
          rw [e9]
          exact mjGo.ret 2 (fun _ => rfl) rfl
def xpCheaper (I : Nat → Nat → Int32) (m : Int32) : Int32 := if (xMin m) ≠ 0 then (mjmin (xPrice m (I 1 8)) (xOther m (I 1 8))) else (-1)
theorem c_xpCheaper (d : Nat) {I : Nat → Nat → Int32} {X : MX} (m : Int32) : mjEv (d + 2) nyX11_cheaper [.ref 0, .int m] (mjH I X) (.inl (some (.int (xpCheaper I m)))) (mjH I X) := by
  refine mjEv.of ?_
  show mjGo (d + 2) nyX11_cheaper 0 ([some (.ref 0), some (.int m)], [], mjH I X) _
  refine mjGo.run 1 (pc' := 1) (F' := ([some (.ref 0), some (.int m)], [.int m], mjH I X)) (fun _ => rfl) ?_
  refine mjGo.call (n := 1) (j := 69) (nx := 4) (o := some (.int (xMin m))) (h' := mjH I X) (fun _ => rfl) (c_xMin (d + 1) m _) ?_
  show mjGo _ _ 4 ([some (.ref 0), some (.int m)], [.int (xMin m)], mjH I X) _
  refine mjGo.run 1 (pc' := (bif decide ((xMin m) ≠ 0) then 9 else 7)) (F' := ([some (.ref 0), some (.int m)], [], mjH I X)) (fun _ => rfl) ?_
  refine mjGo.br (fun q1 => ?_) (fun q1 => ?_)
  · show mjGo _ _ 9 _ _
    refine mjGo.run 4 (pc' := 17) (F' := ([some (.ref 0), some (.int m)], [.int (I 1 8), .int m], mjH I X)) (fun _ => rfl) ?_
    refine mjGo.call (n := 2) (j := 19) (nx := 20) (o := some (.int (xPrice m (I 1 8)))) (h' := mjH I X) (fun _ => rfl) (c_xPrice (d + 1) m (I 1 8) _) ?_
    show mjGo _ _ 20 ([some (.ref 0), some (.int m)], [.int (xPrice m (I 1 8))], mjH I X) _
    refine mjGo.run 4 (pc' := 28) (F' := ([some (.ref 0), some (.int m)], [.int (I 1 8), .int m, .int (xPrice m (I 1 8))], mjH I X)) (fun _ => rfl) ?_
    refine mjGo.call (n := 2) (j := 112) (nx := 31) (o := some (.int (xOther m (I 1 8)))) (h' := mjH I X) (fun _ => rfl) (c_xOther d m (I 1 8) _) ?_
    show mjGo _ _ 31 ([some (.ref 0), some (.int m)], [.int (xOther m (I 1 8)), .int (xPrice m (I 1 8))], mjH I X) _
    have e9 : xpCheaper I m = (mjmin (xPrice m (I 1 8)) (xOther m (I 1 8))) := by unfold xpCheaper; rw [if_pos q1]
    rw [e9]
    exact mjGo.ret 2 (fun _ => rfl) rfl
  · show mjGo _ _ 7 _ _
    have e9 : xpCheaper I m = (-1) := by unfold xpCheaper; rw [if_neg q1]
    rw [e9]
    exact mjGo.ret 2 (fun _ => rfl) rfl
def mpCheaper (I : Nat → Nat → Int32) (m : Int32) : Int32 := if (mMin m) = 0 then (-1) else (mjmin (mPrice (I 44 3) m) (mOther I m))
theorem c_mpCheaper (d : Nat) {I : Nat → Nat → Int32} {X : MX} (m : Int32) : mjEv (d + 2) nyX12_cheaper [.ref 43, .int m] (mjH I X) (.inl (some (.int (mpCheaper I m)))) (mjH I X) := by
  refine mjEv.of ?_
  show mjGo (d + 2) nyX12_cheaper 0 ([some (.ref 43), some (.int m)], [], mjH I X) _
  refine mjGo.run 1 (pc' := 1) (F' := ([some (.ref 43), some (.int m)], [.int m], mjH I X)) (fun _ => rfl) ?_
  refine mjGo.call (n := 1) (j := 133) (nx := 4) (o := some (.int (mMin m))) (h' := mjH I X) (fun _ => rfl) (c_mMin d m _) ?_
  show mjGo _ _ 4 ([some (.ref 43), some (.int m)], [.int (mMin m)], mjH I X) _
  refine mjGo.run 1 (pc' := (bif decide ((mMin m) = 0) then 28 else 7)) (F' := ([some (.ref 43), some (.int m)], [], mjH I X)) (fun _ => rfl) ?_
  refine mjGo.br (fun q1 => ?_) (fun q1 => ?_)
  · show mjGo _ _ 28 _ _
    have e9 : mpCheaper I m = (-1) := by unfold mpCheaper; rw [if_pos q1]
    rw [e9]
    exact mjGo.ret 2 (fun _ => rfl) rfl
  · show mjGo _ _ 7 _ _
    refine mjGo.run 5 (pc' := 14) (F' := ([some (.ref 43), some (.int m)], [.int m, .int (I 44 3)], mjH I X)) (fun _ => rfl) ?_
    refine mjGo.call (n := 2) (j := 139) (nx := 17) (o := some (.int (mPrice (I 44 3) m))) (h' := mjH I X) (fun _ => rfl) (c_mPrice (d + 1) (I 44 3) m _) ?_
    show mjGo _ _ 17 ([some (.ref 43), some (.int m)], [.int (mPrice (I 44 3) m)], mjH I X) _
    refine mjGo.run 2 (pc' := 19) (F' := ([some (.ref 43), some (.int m)], [.int m, .ref 43, .int (mPrice (I 44 3) m)], mjH I X)) (fun _ => rfl) ?_
    refine mjGo.call (n := 2) (j := 170) (nx := 22) (o := some (.int (mOther I m))) (h' := mjH I X) (fun _ => rfl) (c_mOther d m) ?_
    show mjGo _ _ 22 ([some (.ref 43), some (.int m)], [.int (mOther I m), .int (mPrice (I 44 3) m)], mjH I X) _
    have e9 : mpCheaper I m = (mjmin (mPrice (I 44 3) m) (mOther I m)) := by unfold mpCheaper; rw [if_neg q1]
    rw [e9]
    exact mjGo.ret 3 (fun _ => rfl) rfl
def xpRest (I : Nat → Nat → Int32) (m w c : Int32) : Int32 := if (xOffer m w c) ≠ 0 then (if 0 ≤ (((xPrice m (I 1 8)) - (w * c)) - 1) then (mjmin (((xPrice m (I 1 8)) - (w * c)) - 1) 12) else (-4)) else (-1)
theorem c_xpRest (d : Nat) {I : Nat → Nat → Int32} {X : MX} (m w c : Int32) : mjEv (d + 2) nyX11_rest [.ref 0, .int m, .int w, .int c] (mjH I X) (.inl (some (.int (xpRest I m w c)))) (mjH I X) := by
  refine mjEv.of ?_
  show mjGo (d + 2) nyX11_rest 0 ([some (.ref 0), some (.int m), some (.int w), some (.int c), none], [], mjH I X) _
  refine mjGo.run 3 (pc' := 3) (F' := ([some (.ref 0), some (.int m), some (.int w), some (.int c), none], [.int c, .int w, .int m], mjH I X)) (fun _ => rfl) ?_
  refine mjGo.call (n := 3) (j := 109) (nx := 6) (o := some (.int (xOffer m w c))) (h' := mjH I X) (fun _ => rfl) (c_xOffer d m w c _) ?_
  show mjGo _ _ 6 ([some (.ref 0), some (.int m), some (.int w), some (.int c), none], [.int (xOffer m w c)], mjH I X) _
  refine mjGo.run 1 (pc' := (bif decide ((xOffer m w c) ≠ 0) then 11 else 9)) (F' := ([some (.ref 0), some (.int m), some (.int w), some (.int c), none], [], mjH I X)) (fun _ => rfl) ?_
  refine mjGo.br (fun q1 => ?_) (fun q1 => ?_)
  · show mjGo _ _ 11 _ _
    refine mjGo.run 4 (pc' := 19) (F' := ([some (.ref 0), some (.int m), some (.int w), some (.int c), none], [.int (I 1 8), .int m], mjH I X)) (fun _ => rfl) ?_
    refine mjGo.call (n := 2) (j := 19) (nx := 22) (o := some (.int (xPrice m (I 1 8)))) (h' := mjH I X) (fun _ => rfl) (c_xPrice (d + 1) m (I 1 8) _) ?_
    show mjGo _ _ 22 ([some (.ref 0), some (.int m), some (.int w), some (.int c), none], [.int (xPrice m (I 1 8))], mjH I X) _
    refine mjGo.run 9 (pc' := (bif decide (0 ≤ (((xPrice m (I 1 8)) - (w * c)) - 1)) then 40 else 35)) (F' := ([some (.ref 0), some (.int m), some (.int w), some (.int c), some (.int (((xPrice m (I 1 8)) - (w * c)) - 1))], [], mjH I X)) (fun _ => rfl) ?_
    refine mjGo.br (fun q2 => ?_) (fun q2 => ?_)
    · show mjGo _ _ 40 _ _
      have e9 : xpRest I m w c = (mjmin (((xPrice m (I 1 8)) - (w * c)) - 1) 12) := by unfold xpRest; rw [if_pos q1, if_pos q2]
      rw [e9]
      exact mjGo.ret 4 (fun _ => rfl) rfl
    · show mjGo _ _ 35 _ _
      have e9 : xpRest I m w c = (-4) := by unfold xpRest; rw [if_pos q1, if_neg q2]
      rw [e9]
      exact mjGo.ret 3 (fun _ => rfl) rfl
  · show mjGo _ _ 9 _ _
    have e9 : xpRest I m w c = (-1) := by unfold xpRest; rw [if_neg q1]
    rw [e9]
    exact mjGo.ret 2 (fun _ => rfl) rfl
def xNineL (I : Nat → Nat → Int32) (m v p : Int32) : Nat → Nat → Int32
  | 0, j => (-4)
  | k + 1, j => if v < (xPart p (nI j)) then (xNineL I m v p k (j + 1)) else ((nI j))
theorem l_xNineL (d : Nat) {I : Nat → Nat → Int32} {X : MX} (m v p : Int32) : ∀ (k j : Nat) , j + k = 10 → mjGo (d + 1) nyX11_nine 35 ([some (.ref 0), some (.int m), some (.int v), some (.int p), some (.int (nI j))], [], mjH I X) (fun x => x = (.inl (some (.int (xNineL I m v p k j))), mjH I X)) := by
  intro k
  induction k with
  | zero =>
    intro j hj
    refine mjGo.run 2 (pc' := 39) (F' := ([some (.ref 0), some (.int m), some (.int v), some (.int p), some (.int (nI j))], [.int 9, .int (nI j)], mjH I X)) (fun _ => rfl) ?_
    refine mjGo.run 1 (pc' := (bif decide (9 < (nI j)) then 61 else 42)) (F' := ([some (.ref 0), some (.int m), some (.int v), some (.int p), some (.int (nI j))], [], mjH I X)) (fun _ => rfl) ?_
    refine mjGo.brT (show 9 < (nI j) by rw [show (9 : Int32) = nI 9 from rfl, nI_ltI (by omega) (by omega)]; omega) ?_
    show mjGo _ _ 61 _ _
    have e9 : xNineL I m v p 0 j = (-4) := by first | (rw [xNineL]; done) | rw [xNineL]
    rw [e9]
    exact mjGo.ret 2 (fun _ => rfl) rfl
  | succ k ih =>
    intro j hj
    refine mjGo.run 2 (pc' := 39) (F' := ([some (.ref 0), some (.int m), some (.int v), some (.int p), some (.int (nI j))], [.int 9, .int (nI j)], mjH I X)) (fun _ => rfl) ?_
    refine mjGo.run 1 (pc' := (bif decide (9 < (nI j)) then 61 else 42)) (F' := ([some (.ref 0), some (.int m), some (.int v), some (.int p), some (.int (nI j))], [], mjH I X)) (fun _ => rfl) ?_
    refine mjGo.brF (show ¬ 9 < (nI j) by rw [show (9 : Int32) = nI 9 from rfl, nI_ltI (by omega) (by omega)]; omega) ?_
    show mjGo _ _ 42 _ _
    refine mjGo.run 2 (pc' := 45) (F' := ([some (.ref 0), some (.int m), some (.int v), some (.int p), some (.int (nI j))], [.int (nI j), .int p], mjH I X)) (fun _ => rfl) ?_
    refine mjGo.call (n := 2) (j := 37) (nx := 48) (o := some (.int (xPart p (nI j)))) (h' := mjH I X) (fun _ => rfl) (c_xPart d p (nI j) _) ?_
    show mjGo _ _ 48 ([some (.ref 0), some (.int m), some (.int v), some (.int p), some (.int (nI j))], [.int (xPart p (nI j))], mjH I X) _
    refine mjGo.run 2 (pc' := (bif decide (v < (xPart p (nI j))) then 55 else 52)) (F' := ([some (.ref 0), some (.int m), some (.int v), some (.int p), some (.int (nI j))], [], mjH I X)) (fun _ => rfl) ?_
    refine mjGo.br (fun q1 => ?_) (fun q1 => ?_)
    · show mjGo _ _ 55 _ _
      refine mjGo.run 2 (pc' := 35) (F' := ([some (.ref 0), some (.int m), some (.int v), some (.int p), some (.int ((nI j) + 1))], [], mjH I X)) (fun _ => rfl) ?_
      have e9 : xNineL I m v p (k + 1) j = xNineL I m v p k (j + 1) := by first | (rw [xNineL]; done) | rw [xNineL, if_pos q1]
      rw [e9]
      have k9 := ih (j + 1) (by omega)
      rw [← nI_1] at k9
      exact k9
    · show mjGo _ _ 52 _ _
      have e9 : xNineL I m v p (k + 1) j = (nI j) := by first | (rw [xNineL]; done) | rw [xNineL, if_neg q1]
      rw [e9]
      exact mjGo.ret 2 (fun _ => rfl) rfl
def xpNine (I : Nat → Nat → Int32) (m v : Int32) : Int32 := if (xMin m) = 0 then (-1) else (if v < 1 then (-1) else (if v ≤ 20 then xNineL I m v (xPrice m (I 1 8)) 9 1 else (-1)))
theorem c_xpNine (d : Nat) {I : Nat → Nat → Int32} {X : MX} (m v : Int32) : mjEv (d + 1) nyX11_nine [.ref 0, .int m, .int v] (mjH I X) (.inl (some (.int (xpNine I m v)))) (mjH I X) := by
  refine mjEv.of ?_
  show mjGo (d + 1) nyX11_nine 0 ([some (.ref 0), some (.int m), some (.int v), none, none], [], mjH I X) _
  refine mjGo.run 1 (pc' := 1) (F' := ([some (.ref 0), some (.int m), some (.int v), none, none], [.int m], mjH I X)) (fun _ => rfl) ?_
  refine mjGo.call (n := 1) (j := 69) (nx := 4) (o := some (.int (xMin m))) (h' := mjH I X) (fun _ => rfl) (c_xMin d m _) ?_
  show mjGo _ _ 4 ([some (.ref 0), some (.int m), some (.int v), none, none], [.int (xMin m)], mjH I X) _
  refine mjGo.run 1 (pc' := (bif decide ((xMin m) = 0) then 18 else 7)) (F' := ([some (.ref 0), some (.int m), some (.int v), none, none], [], mjH I X)) (fun _ => rfl) ?_
  refine mjGo.br (fun q1 => ?_) (fun q1 => ?_)
  · show mjGo _ _ 18 _ _
    have e9 : xpNine I m v = (-1) := by unfold xpNine; rw [if_pos q1]
    rw [e9]
    exact mjGo.ret 2 (fun _ => rfl) rfl
  · show mjGo _ _ 7 _ _
    refine mjGo.run 3 (pc' := (bif decide (v < 1) then 18 else 12)) (F' := ([some (.ref 0), some (.int m), some (.int v), none, none], [], mjH I X)) (fun _ => rfl) ?_
    refine mjGo.br (fun q2 => ?_) (fun q2 => ?_)
    · show mjGo _ _ 18 _ _
      have e9 : xpNine I m v = (-1) := by unfold xpNine; rw [if_neg q1, if_pos q2]
      rw [e9]
      exact mjGo.ret 2 (fun _ => rfl) rfl
    · show mjGo _ _ 12 _ _
      refine mjGo.run 3 (pc' := (bif decide (v ≤ 20) then 20 else 18)) (F' := ([some (.ref 0), some (.int m), some (.int v), none, none], [], mjH I X)) (fun _ => rfl) ?_
      refine mjGo.br (fun q3 => ?_) (fun q3 => ?_)
      · show mjGo _ _ 20 _ _
        refine mjGo.run 4 (pc' := 28) (F' := ([some (.ref 0), some (.int m), some (.int v), none, none], [.int (I 1 8), .int m], mjH I X)) (fun _ => rfl) ?_
        refine mjGo.call (n := 2) (j := 19) (nx := 31) (o := some (.int (xPrice m (I 1 8)))) (h' := mjH I X) (fun _ => rfl) (c_xPrice d m (I 1 8) _) ?_
        show mjGo _ _ 31 ([some (.ref 0), some (.int m), some (.int v), none, none], [.int (xPrice m (I 1 8))], mjH I X) _
        refine mjGo.run 3 (pc' := 35) (F' := ([some (.ref 0), some (.int m), some (.int v), some (.int (xPrice m (I 1 8))), some (.int 1)], [], mjH I X)) (fun _ => rfl) ?_
        have e9 : xpNine I m v = xNineL I m v (xPrice m (I 1 8)) 9 1 := by unfold xpNine; rw [if_neg q1, if_neg q2, if_pos q3]
        rw [e9]
        exact l_xNineL d m v (xPrice m (I 1 8)) 9 1 (by omega)
      · show mjGo _ _ 18 _ _
        have e9 : xpNine I m v = (-1) := by unfold xpNine; rw [if_neg q1, if_neg q2, if_neg q3]
        rw [e9]
        exact mjGo.ret 2 (fun _ => rfl) rfl
def mNineL (I : Nat → Nat → Int32) (m v : Int32) : Nat → Nat → Int32
  | 0, j => (-4)
  | k + 1, j => if v < (mShare I (mPrice (I 44 3) m) (nI j)) then (mNineL I m v k (j + 1)) else ((nI j))
theorem l_mNineL (d : Nat) {I : Nat → Nat → Int32} {X : MX} (m v : Int32) : ∀ (k j : Nat) , j + k = 10 ∧ 1 ≤ j → mjGo (d + 1) nyX12_nine 21 ([some (.ref 43), some (.int m), some (.int v), some (.int (nI j))], [], mjH I X) (fun x => x = (.inl (some (.int (mNineL I m v k j))), mjH I X)) := by
  intro k
  induction k with
  | zero =>
    intro j hj
    refine mjGo.run 2 (pc' := 24) (F' := ([some (.ref 43), some (.int m), some (.int v), some (.int (nI j))], [.int 10, .int (nI j)], mjH I X)) (fun _ => rfl) ?_
    refine mjGo.run 1 (pc' := (bif decide (10 ≤ (nI j)) then 53 else 27)) (F' := ([some (.ref 43), some (.int m), some (.int v), some (.int (nI j))], [], mjH I X)) (fun _ => rfl) ?_
    refine mjGo.brT (show 10 ≤ (nI j) by rw [show (10 : Int32) = nI 10 from rfl, nI_leI (by omega) (by omega)]; omega) ?_
    show mjGo _ _ 53 _ _
    have e9 : mNineL I m v 0 j = (-4) := by first | (rw [mNineL]; done) | rw [mNineL]
    rw [e9]
    exact mjGo.ret 2 (fun _ => rfl) rfl
  | succ k ih =>
    intro j hj
    refine mjGo.run 2 (pc' := 24) (F' := ([some (.ref 43), some (.int m), some (.int v), some (.int (nI j))], [.int 10, .int (nI j)], mjH I X)) (fun _ => rfl) ?_
    refine mjGo.run 1 (pc' := (bif decide (10 ≤ (nI j)) then 53 else 27)) (F' := ([some (.ref 43), some (.int m), some (.int v), some (.int (nI j))], [], mjH I X)) (fun _ => rfl) ?_
    refine mjGo.brF (show ¬ 10 ≤ (nI j) by rw [show (10 : Int32) = nI 10 from rfl, nI_leI (by omega) (by omega)]; omega) ?_
    show mjGo _ _ 27 _ _
    refine mjGo.run 5 (pc' := 34) (F' := ([some (.ref 43), some (.int m), some (.int v), some (.int (nI j))], [.int m, .int (I 44 3)], mjH I X)) (fun _ => rfl) ?_
    refine mjGo.call (n := 2) (j := 139) (nx := 37) (o := some (.int (mPrice (I 44 3) m))) (h' := mjH I X) (fun _ => rfl) (c_mPrice d (I 44 3) m _) ?_
    show mjGo _ _ 37 ([some (.ref 43), some (.int m), some (.int v), some (.int (nI j))], [.int (mPrice (I 44 3) m)], mjH I X) _
    refine mjGo.run 1 (pc' := 38) (F' := ([some (.ref 43), some (.int m), some (.int v), some (.int (nI j))], [.int (nI j), .int (mPrice (I 44 3) m)], mjH I X)) (fun _ => rfl) ?_
    refine mjGo.call (n := 2) (j := 164) (nx := 41) (o := some (.int (mShare I (mPrice (I 44 3) m) (nI j)))) (h' := mjH I X) (fun _ => rfl) (c_mShare d (mPrice (I 44 3) m) (nI j) (show ¬ nI j = 0 from nI_ne0 (by omega) (by omega))) ?_
    show mjGo _ _ 41 ([some (.ref 43), some (.int m), some (.int v), some (.int (nI j))], [.int (mShare I (mPrice (I 44 3) m) (nI j))], mjH I X) _
    refine mjGo.run 2 (pc' := (bif decide (v < (mShare I (mPrice (I 44 3) m) (nI j))) then 47 else 45)) (F' := ([some (.ref 43), some (.int m), some (.int v), some (.int (nI j))], [], mjH I X)) (fun _ => rfl) ?_
    refine mjGo.br (fun q1 => ?_) (fun q1 => ?_)
    · show mjGo _ _ 47 _ _
      refine mjGo.run 2 (pc' := 21) (F' := ([some (.ref 43), some (.int m), some (.int v), some (.int ((nI j) + 1))], [], mjH I X)) (fun _ => rfl) ?_
      have e9 : mNineL I m v (k + 1) j = mNineL I m v k (j + 1) := by first | (rw [mNineL]; done) | rw [mNineL, if_pos q1]
      rw [e9]
      have k9 := ih (j + 1) (by omega)
      rw [← nI_1] at k9
      exact k9
    · show mjGo _ _ 45 _ _
      have e9 : mNineL I m v (k + 1) j = (nI j) := by first | (rw [mNineL]; done) | rw [mNineL, if_neg q1]
      rw [e9]
      exact mjGo.ret 2 (fun _ => rfl) rfl
def mpNine (I : Nat → Nat → Int32) (m v : Int32) : Int32 := if (mMin m) = 0 then (-1) else (if (mIn v 1 20) ≠ 0 then mNineL I m v 9 1 else (-1))
theorem c_mpNine (d : Nat) {I : Nat → Nat → Int32} {X : MX} (m v : Int32) : mjEv (d + 2) nyX12_nine [.ref 43, .int m, .int v] (mjH I X) (.inl (some (.int (mpNine I m v)))) (mjH I X) := by
  refine mjEv.of ?_
  show mjGo (d + 2) nyX12_nine 0 ([some (.ref 43), some (.int m), some (.int v), none], [], mjH I X) _
  refine mjGo.run 1 (pc' := 1) (F' := ([some (.ref 43), some (.int m), some (.int v), none], [.int m], mjH I X)) (fun _ => rfl) ?_
  refine mjGo.call (n := 1) (j := 133) (nx := 4) (o := some (.int (mMin m))) (h' := mjH I X) (fun _ => rfl) (c_mMin d m _) ?_
  show mjGo _ _ 4 ([some (.ref 43), some (.int m), some (.int v), none], [.int (mMin m)], mjH I X) _
  refine mjGo.run 1 (pc' := (bif decide ((mMin m) = 0) then 17 else 7)) (F' := ([some (.ref 43), some (.int m), some (.int v), none], [], mjH I X)) (fun _ => rfl) ?_
  refine mjGo.br (fun q1 => ?_) (fun q1 => ?_)
  · show mjGo _ _ 17 _ _
    have e9 : mpNine I m v = (-1) := by unfold mpNine; rw [if_pos q1]
    rw [e9]
    exact mjGo.ret 2 (fun _ => rfl) rfl
  · show mjGo _ _ 7 _ _
    refine mjGo.run 3 (pc' := 11) (F' := ([some (.ref 43), some (.int m), some (.int v), none], [.int 20, .int 1, .int v], mjH I X)) (fun _ => rfl) ?_
    refine mjGo.call (n := 3) (j := 132) (nx := 14) (o := some (.int (mIn v 1 20))) (h' := mjH I X) (fun _ => rfl) (c_mIn (d + 1) v 1 20 _) ?_
    show mjGo _ _ 14 ([some (.ref 43), some (.int m), some (.int v), none], [.int (mIn v 1 20)], mjH I X) _
    refine mjGo.run 1 (pc' := (bif decide ((mIn v 1 20) ≠ 0) then 19 else 17)) (F' := ([some (.ref 43), some (.int m), some (.int v), none], [], mjH I X)) (fun _ => rfl) ?_
    refine mjGo.br (fun q2 => ?_) (fun q2 => ?_)
    · show mjGo _ _ 19 _ _
      refine mjGo.run 2 (pc' := 21) (F' := ([some (.ref 43), some (.int m), some (.int v), some (.int 1)], [], mjH I X)) (fun _ => rfl) ?_
      have e9 : mpNine I m v = mNineL I m v 9 1 := by unfold mpNine; rw [if_neg q1, if_pos q2]
      rw [e9]
      exact l_mNineL (d + 1) m v 9 1 (by omega)
    · show mjGo _ _ 17 _ _
      have e9 : mpNine I m v = (-1) := by unfold mpNine; rw [if_neg q1, if_neg q2]
      rw [e9]
      exact mjGo.ret 2 (fun _ => rfl) rfl
def mWaitsL (I : Nat → Nat → Int32) (m : Nat) (p : Int32) : Nat → Nat → Int32
  | 0, j => (-4)
  | k + 1, j => if p < (mPrice (I 44 3) (nI j)) then (mWaitsL I m p k (j + 1)) else (((nI j) - (nI m)))
theorem l_mWaitsL (d : Nat) {I : Nat → Nat → Int32} {X : MX} (m : Nat) (p : Int32) : ∀ (k j : Nat) , j + k = 720 → mjGo (d + 1) nyX12_waits 21 ([some (.ref 43), some (.int (nI m)), some (.int p), some (.int (nI j))], [], mjH I X) (fun x => x = (.inl (some (.int (mWaitsL I m p k j))), mjH I X)) := by
  intro k
  induction k with
  | zero =>
    intro j hj
    refine mjGo.run 2 (pc' := 25) (F' := ([some (.ref 43), some (.int (nI m)), some (.int p), some (.int (nI j))], [.int 719, .int (nI j)], mjH I X)) (fun _ => rfl) ?_
    refine mjGo.run 1 (pc' := (bif decide (719 < (nI j)) then 52 else 28)) (F' := ([some (.ref 43), some (.int (nI m)), some (.int p), some (.int (nI j))], [], mjH I X)) (fun _ => rfl) ?_
    refine mjGo.brT (show 719 < (nI j) by rw [show (719 : Int32) = nI 719 from rfl, nI_ltI (by omega) (by omega)]; omega) ?_
    show mjGo _ _ 52 _ _
    have e9 : mWaitsL I m p 0 j = (-4) := by first | (rw [mWaitsL]; done) | rw [mWaitsL]
    rw [e9]
    exact mjGo.ret 2 (fun _ => rfl) rfl
  | succ k ih =>
    intro j hj
    refine mjGo.run 2 (pc' := 25) (F' := ([some (.ref 43), some (.int (nI m)), some (.int p), some (.int (nI j))], [.int 719, .int (nI j)], mjH I X)) (fun _ => rfl) ?_
    refine mjGo.run 1 (pc' := (bif decide (719 < (nI j)) then 52 else 28)) (F' := ([some (.ref 43), some (.int (nI m)), some (.int p), some (.int (nI j))], [], mjH I X)) (fun _ => rfl) ?_
    refine mjGo.brF (show ¬ 719 < (nI j) by rw [show (719 : Int32) = nI 719 from rfl, nI_ltI (by omega) (by omega)]; omega) ?_
    show mjGo _ _ 28 _ _
    refine mjGo.run 5 (pc' := 35) (F' := ([some (.ref 43), some (.int (nI m)), some (.int p), some (.int (nI j))], [.int (nI j), .int (I 44 3)], mjH I X)) (fun _ => rfl) ?_
    refine mjGo.call (n := 2) (j := 139) (nx := 38) (o := some (.int (mPrice (I 44 3) (nI j)))) (h' := mjH I X) (fun _ => rfl) (c_mPrice d (I 44 3) (nI j) _) ?_
    show mjGo _ _ 38 ([some (.ref 43), some (.int (nI m)), some (.int p), some (.int (nI j))], [.int (mPrice (I 44 3) (nI j))], mjH I X) _
    refine mjGo.run 2 (pc' := (bif decide (p < (mPrice (I 44 3) (nI j))) then 46 else 42)) (F' := ([some (.ref 43), some (.int (nI m)), some (.int p), some (.int (nI j))], [], mjH I X)) (fun _ => rfl) ?_
    refine mjGo.br (fun q1 => ?_) (fun q1 => ?_)
    · show mjGo _ _ 46 _ _
      refine mjGo.run 2 (pc' := 21) (F' := ([some (.ref 43), some (.int (nI m)), some (.int p), some (.int ((nI j) + 1))], [], mjH I X)) (fun _ => rfl) ?_
      have e9 : mWaitsL I m p (k + 1) j = mWaitsL I m p k (j + 1) := by first | (rw [mWaitsL]; done) | rw [mWaitsL, if_pos q1]
      rw [e9]
      have k9 := ih (j + 1) (by omega)
      rw [← nI_1] at k9
      exact k9
    · show mjGo _ _ 42 _ _
      have e9 : mWaitsL I m p (k + 1) j = ((nI j) - (nI m)) := by first | (rw [mWaitsL]; done) | rw [mWaitsL, if_neg q1]
      rw [e9]
      exact mjGo.ret 4 (fun _ => rfl) rfl
def mpWaits (I : Nat → Nat → Int32) (m : Nat) (p : Int32) : Int32 := if (mMin (nI m)) = 0 then (-1) else (if (mIn p 0 20) ≠ 0 then mWaitsL I m p (720 - m) m else (-1))
theorem c_mpWaits (d : Nat) {I : Nat → Nat → Int32} {X : MX} (m : Nat) (p : Int32) (hm : m < 720) : mjEv (d + 2) nyX12_waits [.ref 43, .int (nI m), .int p] (mjH I X) (.inl (some (.int (mpWaits I m p)))) (mjH I X) := by
  refine mjEv.of ?_
  show mjGo (d + 2) nyX12_waits 0 ([some (.ref 43), some (.int (nI m)), some (.int p), none], [], mjH I X) _
  refine mjGo.run 1 (pc' := 1) (F' := ([some (.ref 43), some (.int (nI m)), some (.int p), none], [.int (nI m)], mjH I X)) (fun _ => rfl) ?_
  refine mjGo.call (n := 1) (j := 133) (nx := 4) (o := some (.int (mMin (nI m)))) (h' := mjH I X) (fun _ => rfl) (c_mMin d (nI m) _) ?_
  show mjGo _ _ 4 ([some (.ref 43), some (.int (nI m)), some (.int p), none], [.int (mMin (nI m))], mjH I X) _
  refine mjGo.run 1 (pc' := (bif decide ((mMin (nI m)) = 0) then 17 else 7)) (F' := ([some (.ref 43), some (.int (nI m)), some (.int p), none], [], mjH I X)) (fun _ => rfl) ?_
  refine mjGo.br (fun q1 => ?_) (fun q1 => ?_)
  · show mjGo _ _ 17 _ _
    have e9 : mpWaits I m p = (-1) := by unfold mpWaits; rw [if_pos q1]
    rw [e9]
    exact mjGo.ret 2 (fun _ => rfl) rfl
  · show mjGo _ _ 7 _ _
    refine mjGo.run 3 (pc' := 11) (F' := ([some (.ref 43), some (.int (nI m)), some (.int p), none], [.int 20, .int 0, .int p], mjH I X)) (fun _ => rfl) ?_
    refine mjGo.call (n := 3) (j := 132) (nx := 14) (o := some (.int (mIn p 0 20))) (h' := mjH I X) (fun _ => rfl) (c_mIn (d + 1) p 0 20 _) ?_
    show mjGo _ _ 14 ([some (.ref 43), some (.int (nI m)), some (.int p), none], [.int (mIn p 0 20)], mjH I X) _
    refine mjGo.run 1 (pc' := (bif decide ((mIn p 0 20) ≠ 0) then 19 else 17)) (F' := ([some (.ref 43), some (.int (nI m)), some (.int p), none], [], mjH I X)) (fun _ => rfl) ?_
    refine mjGo.br (fun q2 => ?_) (fun q2 => ?_)
    · show mjGo _ _ 19 _ _
      refine mjGo.run 2 (pc' := 21) (F' := ([some (.ref 43), some (.int (nI m)), some (.int p), some (.int (nI m))], [], mjH I X)) (fun _ => rfl) ?_
      have e9 : mpWaits I m p = mWaitsL I m p (720 - m) m := by unfold mpWaits; rw [if_neg q1, if_pos q2]
      rw [e9]
      exact l_mWaitsL (d + 1) m p (720 - m) m (by omega)
    · show mjGo _ _ 17 _ _
      have e9 : mpWaits I m p = (-1) := by unfold mpWaits; rw [if_neg q1, if_neg q2]
      rw [e9]
      exact mjGo.ret 2 (fun _ => rfl) rfl
def xpWaits (I : Nat → Nat → Int32) (m : Nat) (p : Int32) : Int32 := if (xMin (nI m)) = 0 then (-1) else (if p < 0 then (-1) else (if p ≤ 20 then (if (nI (xCh (I 1 8) p m)) ≠ 720 then ((nI (xCh (I 1 8) p m)) - (nI m)) else (-4)) else (-1)))
theorem c_xpWaits (d : Nat) {I : Nat → Nat → Int32} {X : MX} (m : Nat) (p : Int32) (hm : m < 720) : mjEv (d + 2) nyX11_waits [.ref 0, .int (nI m), .int p] (mjH I X) (.inl (some (.int (xpWaits I m p)))) (mjH I X) := by
  refine mjEv.of ?_
  show mjGo (d + 2) nyX11_waits 0 ([some (.ref 0), some (.int (nI m)), some (.int p), none], [], mjH I X) _
  refine mjGo.run 1 (pc' := 1) (F' := ([some (.ref 0), some (.int (nI m)), some (.int p), none], [.int (nI m)], mjH I X)) (fun _ => rfl) ?_
  refine mjGo.call (n := 1) (j := 69) (nx := 4) (o := some (.int (xMin (nI m)))) (h' := mjH I X) (fun _ => rfl) (c_xMin (d + 1) (nI m) _) ?_
  show mjGo _ _ 4 ([some (.ref 0), some (.int (nI m)), some (.int p), none], [.int (xMin (nI m))], mjH I X) _
  refine mjGo.run 1 (pc' := (bif decide ((xMin (nI m)) = 0) then 17 else 7)) (F' := ([some (.ref 0), some (.int (nI m)), some (.int p), none], [], mjH I X)) (fun _ => rfl) ?_
  refine mjGo.br (fun q1 => ?_) (fun q1 => ?_)
  · show mjGo _ _ 17 _ _
    have e9 : xpWaits I m p = (-1) := by unfold xpWaits; rw [if_pos q1]
    rw [e9]
    exact mjGo.ret 2 (fun _ => rfl) rfl
  · show mjGo _ _ 7 _ _
    refine mjGo.run 2 (pc' := (bif decide (p < 0) then 17 else 11)) (F' := ([some (.ref 0), some (.int (nI m)), some (.int p), none], [], mjH I X)) (fun _ => rfl) ?_
    refine mjGo.br (fun q2 => ?_) (fun q2 => ?_)
    · show mjGo _ _ 17 _ _
      have e9 : xpWaits I m p = (-1) := by unfold xpWaits; rw [if_neg q1, if_pos q2]
      rw [e9]
      exact mjGo.ret 2 (fun _ => rfl) rfl
    · show mjGo _ _ 11 _ _
      refine mjGo.run 3 (pc' := (bif decide (p ≤ 20) then 19 else 17)) (F' := ([some (.ref 0), some (.int (nI m)), some (.int p), none], [], mjH I X)) (fun _ => rfl) ?_
      refine mjGo.br (fun q3 => ?_) (fun q3 => ?_)
      · show mjGo _ _ 19 _ _
        refine mjGo.run 5 (pc' := 28) (F' := ([some (.ref 0), some (.int (nI m)), some (.int p), none], [.int (I 1 8), .int p, .int (nI m)], mjH I X)) (fun _ => rfl) ?_
        refine mjGo.call (n := 3) (j := 20) (nx := 31) (o := some (.int (nI (xCh (I 1 8) p m)))) (h' := mjH I X) (fun _ => rfl) (c_xCh _ (by omega)) ?_
        show mjGo _ _ 31 ([some (.ref 0), some (.int (nI m)), some (.int p), none], [.int (nI (xCh (I 1 8) p m))], mjH I X) _
        refine mjGo.run 4 (pc' := (bif decide ((nI (xCh (I 1 8) p m)) ≠ 720) then 44 else 39)) (F' := ([some (.ref 0), some (.int (nI m)), some (.int p), some (.int (nI (xCh (I 1 8) p m)))], [], mjH I X)) (fun _ => rfl) ?_
        refine mjGo.br (fun q4 => ?_) (fun q4 => ?_)
        · show mjGo _ _ 44 _ _
          have e9 : xpWaits I m p = ((nI (xCh (I 1 8) p m)) - (nI m)) := by unfold xpWaits; rw [if_neg q1, if_neg q2, if_pos q3, if_pos q4]
          rw [e9]
          exact mjGo.ret 4 (fun _ => rfl) rfl
        · show mjGo _ _ 39 _ _
          have e9 : xpWaits I m p = (-4) := by unfold xpWaits; rw [if_neg q1, if_neg q2, if_pos q3, if_neg q4]
          rw [e9]
          exact mjGo.ret 3 (fun _ => rfl) rfl
      · show mjGo _ _ 17 _ _
        have e9 : xpWaits I m p = (-1) := by unfold xpWaits; rw [if_neg q1, if_neg q2, if_neg q3]
        rw [e9]
        exact mjGo.ret 2 (fun _ => rfl) rfl
def mpWaitsN (I : Nat → Nat → Int32) (m p : Int32) : Int32 := (-1)
theorem c_mpWaitsN (d : Nat) {I : Nat → Nat → Int32} {X : MX} (m p : Int32) (hno : mMin m = 0) : mjEv (d + 3) nyX12_waits [.ref 43, .int m, .int p] (mjH I X) (.inl (some (.int (mpWaitsN I m p)))) (mjH I X) := by
  refine mjEv.of ?_
  show mjGo (d + 3) nyX12_waits 0 ([some (.ref 43), some (.int m), some (.int p), none], [], mjH I X) _
  refine mjGo.run 1 (pc' := 1) (F' := ([some (.ref 43), some (.int m), some (.int p), none], [.int m], mjH I X)) (fun _ => rfl) ?_
  refine mjGo.call (n := 1) (j := 133) (nx := 4) (o := some (.int 0)) (h' := mjH I X) (fun _ => rfl) (by have q := c_mMin (d + 1) m (mjH I X); rw [hno] at q; exact q) ?_
  show mjGo _ _ 4 ([some (.ref 43), some (.int m), some (.int p), none], [.int 0], mjH I X) _
  have e9 : mpWaitsN I m p = (-1) := by unfold mpWaitsN; rfl
  rw [e9]
  exact mjGo.ret 3 (fun _ => rfl) rfl
def xpWaitsN (I : Nat → Nat → Int32) (m p : Int32) : Int32 := (-1)
theorem c_xpWaitsN (d : Nat) {I : Nat → Nat → Int32} {X : MX} (m p : Int32) (hno : xMin m = 0) : mjEv (d + 3) nyX11_waits [.ref 0, .int m, .int p] (mjH I X) (.inl (some (.int (xpWaitsN I m p)))) (mjH I X) := by
  refine mjEv.of ?_
  show mjGo (d + 3) nyX11_waits 0 ([some (.ref 0), some (.int m), some (.int p), none], [], mjH I X) _
  refine mjGo.run 1 (pc' := 1) (F' := ([some (.ref 0), some (.int m), some (.int p), none], [.int m], mjH I X)) (fun _ => rfl) ?_
  refine mjGo.call (n := 1) (j := 69) (nx := 4) (o := some (.int 0)) (h' := mjH I X) (fun _ => rfl) (by have q := c_xMin (d + 2) m (mjH I X); rw [hno] at q; exact q) ?_
  show mjGo _ _ 4 ([some (.ref 0), some (.int m), some (.int p), none], [.int 0], mjH I X) _
  have e9 : xpWaitsN I m p = (-1) := by unfold xpWaitsN; rfl
  rw [e9]
  exact mjGo.ret 3 (fun _ => rfl) rfl
def xOcL (I : Nat → Nat → Int32) : Nat → Nat → Int32 → Int32
  | 0, j, s => s
  | k + 1, j, s => if (xPrice (nI j) (I 1 8)) ≤ (xOther (nI j) (I 1 8)) then (xOcL I k (j + 1) s) else (xOcL I k (j + 1) (s + 1))
theorem l_xOcL (d : Nat) {I : Nat → Nat → Int32} {X : MX} : ∀ (k j : Nat) (s : Int32), j + k = 720 → mjGo (d + 2) nyX11_otherCheaper 4 ([some (.ref 0), some (.int s), some (.int (nI j))], [], mjH I X) (fun x => x = (.inl (some (.int (xOcL I k j s))), mjH I X)) := by
  intro k
  induction k with
  | zero =>
    intro j s hj
    refine mjGo.run 2 (pc' := 8) (F' := ([some (.ref 0), some (.int s), some (.int (nI j))], [.int 719, .int (nI j)], mjH I X)) (fun _ => rfl) ?_
    refine mjGo.run 1 (pc' := (bif decide (719 < (nI j)) then 45 else 11)) (F' := ([some (.ref 0), some (.int s), some (.int (nI j))], [], mjH I X)) (fun _ => rfl) ?_
    refine mjGo.brT (show 719 < (nI j) by rw [show (719 : Int32) = nI 719 from rfl, nI_ltI (by omega) (by omega)]; omega) ?_
    show mjGo _ _ 45 _ _
    have e9 : xOcL I 0 j s = s := by first | (rw [xOcL]; done) | rw [xOcL]
    rw [e9]
    exact mjGo.ret 2 (fun _ => rfl) rfl
  | succ k ih =>
    intro j s hj
    refine mjGo.run 2 (pc' := 8) (F' := ([some (.ref 0), some (.int s), some (.int (nI j))], [.int 719, .int (nI j)], mjH I X)) (fun _ => rfl) ?_
    refine mjGo.run 1 (pc' := (bif decide (719 < (nI j)) then 45 else 11)) (F' := ([some (.ref 0), some (.int s), some (.int (nI j))], [], mjH I X)) (fun _ => rfl) ?_
    refine mjGo.brF (show ¬ 719 < (nI j) by rw [show (719 : Int32) = nI 719 from rfl, nI_ltI (by omega) (by omega)]; omega) ?_
    show mjGo _ _ 11 _ _
    refine mjGo.run 4 (pc' := 19) (F' := ([some (.ref 0), some (.int s), some (.int (nI j))], [.int (I 1 8), .int (nI j)], mjH I X)) (fun _ => rfl) ?_
    refine mjGo.call (n := 2) (j := 112) (nx := 22) (o := some (.int (xOther (nI j) (I 1 8)))) (h' := mjH I X) (fun _ => rfl) (c_xOther d (nI j) (I 1 8) _) ?_
    show mjGo _ _ 22 ([some (.ref 0), some (.int s), some (.int (nI j))], [.int (xOther (nI j) (I 1 8))], mjH I X) _
    refine mjGo.run 4 (pc' := 30) (F' := ([some (.ref 0), some (.int s), some (.int (nI j))], [.int (I 1 8), .int (nI j), .int (xOther (nI j) (I 1 8))], mjH I X)) (fun _ => rfl) ?_
    refine mjGo.call (n := 2) (j := 19) (nx := 33) (o := some (.int (xPrice (nI j) (I 1 8)))) (h' := mjH I X) (fun _ => rfl) (c_xPrice (d + 1) (nI j) (I 1 8) _) ?_
    show mjGo _ _ 33 ([some (.ref 0), some (.int s), some (.int (nI j))], [.int (xPrice (nI j) (I 1 8)), .int (xOther (nI j) (I 1 8))], mjH I X) _
    refine mjGo.run 1 (pc' := (bif decide ((xPrice (nI j) (I 1 8)) ≤ (xOther (nI j) (I 1 8))) then 39 else 36)) (F' := ([some (.ref 0), some (.int s), some (.int (nI j))], [], mjH I X)) (fun _ => rfl) ?_
    refine mjGo.br (fun q1 => ?_) (fun q1 => ?_)
    · show mjGo _ _ 39 _ _
      refine mjGo.run 2 (pc' := 4) (F' := ([some (.ref 0), some (.int s), some (.int ((nI j) + 1))], [], mjH I X)) (fun _ => rfl) ?_
      have e9 : xOcL I (k + 1) j s = xOcL I k (j + 1) s := by first | (rw [xOcL]; done) | rw [xOcL, if_pos q1]
      rw [e9]
      have k9 := ih (j + 1) s (by omega)
      rw [← nI_1] at k9
      exact k9
    · show mjGo _ _ 36 _ _
      refine mjGo.run 3 (pc' := 4) (F' := ([some (.ref 0), some (.int (s + 1)), some (.int ((nI j) + 1))], [], mjH I X)) (fun _ => rfl) ?_
      have e9 : xOcL I (k + 1) j s = xOcL I k (j + 1) (s + 1) := by first | (rw [xOcL]; done) | rw [xOcL, if_neg q1]
      rw [e9]
      have k9 := ih (j + 1) (s + 1) (by omega)
      rw [← nI_1] at k9
      exact k9
def xpOc (I : Nat → Nat → Int32) : Int32 := xOcL I 720 0 0
theorem c_xpOc (d : Nat) {I : Nat → Nat → Int32} {X : MX} : mjEv (d + 2) nyX11_otherCheaper [.ref 0] (mjH I X) (.inl (some (.int (xpOc I)))) (mjH I X) := by
  refine mjEv.of ?_
  show mjGo (d + 2) nyX11_otherCheaper 0 ([some (.ref 0), none, none], [], mjH I X) _
  refine mjGo.run 4 (pc' := 4) (F' := ([some (.ref 0), some (.int 0), some (.int 0)], [], mjH I X)) (fun _ => rfl) ?_
  have e9 : xpOc I = xOcL I 720 0 0 := by unfold xpOc; rfl
  rw [e9]
  exact l_xOcL d 720 0 0 (by omega)
def mOcL (I : Nat → Nat → Int32) : Nat → Nat → Int32 → Int32
  | 0, j, s => s
  | k + 1, j, s => if (mPrice (I 44 3) (nI j)) ≤ (mOther I (nI j)) then (mOcL I k (j + 1) (s + 0)) else (mOcL I k (j + 1) (s + 1))
theorem l_mOcL (d : Nat) {I : Nat → Nat → Int32} {X : MX} : ∀ (k j : Nat) (s : Int32), j + k = 720 → mjGo (d + 2) nyX12_otherCheaper 4 ([some (.ref 43), some (.int s), some (.int (nI j))], [], mjH I X) (fun x => x = (.inl (some (.int (mOcL I k j s))), mjH I X)) := by
  intro k
  induction k with
  | zero =>
    intro j s hj
    refine mjGo.run 2 (pc' := 8) (F' := ([some (.ref 43), some (.int s), some (.int (nI j))], [.int 719, .int (nI j)], mjH I X)) (fun _ => rfl) ?_
    refine mjGo.run 1 (pc' := (bif decide (719 < (nI j)) then 43 else 11)) (F' := ([some (.ref 43), some (.int s), some (.int (nI j))], [], mjH I X)) (fun _ => rfl) ?_
    refine mjGo.brT (show 719 < (nI j) by rw [show (719 : Int32) = nI 719 from rfl, nI_ltI (by omega) (by omega)]; omega) ?_
    show mjGo _ _ 43 _ _
    have e9 : mOcL I 0 j s = s := by first | (rw [mOcL]; done) | rw [mOcL]
    rw [e9]
    exact mjGo.ret 2 (fun _ => rfl) rfl
  | succ k ih =>
    intro j s hj
    refine mjGo.run 2 (pc' := 8) (F' := ([some (.ref 43), some (.int s), some (.int (nI j))], [.int 719, .int (nI j)], mjH I X)) (fun _ => rfl) ?_
    refine mjGo.run 1 (pc' := (bif decide (719 < (nI j)) then 43 else 11)) (F' := ([some (.ref 43), some (.int s), some (.int (nI j))], [], mjH I X)) (fun _ => rfl) ?_
    refine mjGo.brF (show ¬ 719 < (nI j) by rw [show (719 : Int32) = nI 719 from rfl, nI_ltI (by omega) (by omega)]; omega) ?_
    show mjGo _ _ 11 _ _
    refine mjGo.run 3 (pc' := 14) (F' := ([some (.ref 43), some (.int s), some (.int (nI j))], [.int (nI j), .ref 43, .int s], mjH I X)) (fun _ => rfl) ?_
    refine mjGo.call (n := 2) (j := 170) (nx := 17) (o := some (.int (mOther I (nI j)))) (h' := mjH I X) (fun _ => rfl) (c_mOther d (nI j)) ?_
    show mjGo _ _ 17 ([some (.ref 43), some (.int s), some (.int (nI j))], [.int (mOther I (nI j)), .int s], mjH I X) _
    refine mjGo.run 5 (pc' := 24) (F' := ([some (.ref 43), some (.int s), some (.int (nI j))], [.int (nI j), .int (I 44 3), .int (mOther I (nI j)), .int s], mjH I X)) (fun _ => rfl) ?_
    refine mjGo.call (n := 2) (j := 139) (nx := 27) (o := some (.int (mPrice (I 44 3) (nI j)))) (h' := mjH I X) (fun _ => rfl) (c_mPrice (d + 1) (I 44 3) (nI j) _) ?_
    show mjGo _ _ 27 ([some (.ref 43), some (.int s), some (.int (nI j))], [.int (mPrice (I 44 3) (nI j)), .int (mOther I (nI j)), .int s], mjH I X) _
    refine mjGo.run 1 (pc' := (bif decide ((mPrice (I 44 3) (nI j)) ≤ (mOther I (nI j))) then 34 else 30)) (F' := ([some (.ref 43), some (.int s), some (.int (nI j))], [.int s], mjH I X)) (fun _ => rfl) ?_
    refine mjGo.br (fun q1 => ?_) (fun q1 => ?_)
    · show mjGo _ _ 34 _ _
      refine mjGo.run 5 (pc' := 4) (F' := ([some (.ref 43), some (.int (s + 0)), some (.int ((nI j) + 1))], [], mjH I X)) (fun _ => rfl) ?_
      have e9 : mOcL I (k + 1) j s = mOcL I k (j + 1) (s + 0) := by first | (rw [mOcL]; done) | rw [mOcL, if_pos q1]
      rw [e9]
      have k9 := ih (j + 1) (s + 0) (by omega)
      rw [← nI_1] at k9
      exact k9
    · show mjGo _ _ 30 _ _
      refine mjGo.run 6 (pc' := 4) (F' := ([some (.ref 43), some (.int (s + 1)), some (.int ((nI j) + 1))], [], mjH I X)) (fun _ => rfl) ?_
      have e9 : mOcL I (k + 1) j s = mOcL I k (j + 1) (s + 1) := by first | (rw [mOcL]; done) | rw [mOcL, if_neg q1]
      rw [e9]
      have k9 := ih (j + 1) (s + 1) (by omega)
      rw [← nI_1] at k9
      exact k9
def mpOc (I : Nat → Nat → Int32) : Int32 := mOcL I 720 0 0
theorem c_mpOc (d : Nat) {I : Nat → Nat → Int32} {X : MX} : mjEv (d + 2) nyX12_otherCheaper [.ref 43] (mjH I X) (.inl (some (.int (mpOc I)))) (mjH I X) := by
  refine mjEv.of ?_
  show mjGo (d + 2) nyX12_otherCheaper 0 ([some (.ref 43), none, none], [], mjH I X) _
  refine mjGo.run 4 (pc' := 4) (F' := ([some (.ref 43), some (.int 0), some (.int 0)], [], mjH I X)) (fun _ => rfl) ?_
  have e9 : mpOc I = mOcL I 720 0 0 := by unfold mpOc; rfl
  rw [e9]
  exact l_mOcL d 720 0 0 (by omega)
def mRestL (I : Nat → Nat → Int32) (m w c : Int32) : Nat → Nat → Int32 → Int32
  | 0, j, s => s
  | k + 1, j, s => if (mIsS I m w (nI j) c) = 0 then (mRestL I m w c k (j + 1) s) else (mRestL I m w c k (j + 1) (nI j))
theorem l_mRestL (d : Nat) {I : Nat → Nat → Int32} {X : MX} (m w c : Int32) : ∀ (k j : Nat) (s : Int32), j + k = 13 → mjGo (d + 2) nyX12_rest 36 ([some (.ref 43), some (.int m), some (.int w), some (.int c), some (.int s), some (.int (nI j))], [], mjH I X) (fun x => x = (.inl (some (.int (mRestL I m w c k j s))), mjH I X)) := by
  intro k
  induction k with
  | zero =>
    intro j s hj
    refine mjGo.run 2 (pc' := 40) (F' := ([some (.ref 43), some (.int m), some (.int w), some (.int c), some (.int s), some (.int (nI j))], [.int 13, .int (nI j)], mjH I X)) (fun _ => rfl) ?_
    refine mjGo.run 1 (pc' := (bif decide (13 ≤ (nI j)) then 70 else 43)) (F' := ([some (.ref 43), some (.int m), some (.int w), some (.int c), some (.int s), some (.int (nI j))], [], mjH I X)) (fun _ => rfl) ?_
    refine mjGo.brT (show 13 ≤ (nI j) by rw [show (13 : Int32) = nI 13 from rfl, nI_leI (by omega) (by omega)]; omega) ?_
    show mjGo _ _ 70 _ _
    have e9 : mRestL I m w c 0 j s = s := by first | (rw [mRestL]; done) | rw [mRestL]
    rw [e9]
    exact mjGo.ret 2 (fun _ => rfl) rfl
  | succ k ih =>
    intro j s hj
    refine mjGo.run 2 (pc' := 40) (F' := ([some (.ref 43), some (.int m), some (.int w), some (.int c), some (.int s), some (.int (nI j))], [.int 13, .int (nI j)], mjH I X)) (fun _ => rfl) ?_
    refine mjGo.run 1 (pc' := (bif decide (13 ≤ (nI j)) then 70 else 43)) (F' := ([some (.ref 43), some (.int m), some (.int w), some (.int c), some (.int s), some (.int (nI j))], [], mjH I X)) (fun _ => rfl) ?_
    refine mjGo.brF (show ¬ 13 ≤ (nI j) by rw [show (13 : Int32) = nI 13 from rfl, nI_leI (by omega) (by omega)]; omega) ?_
    show mjGo _ _ 43 _ _
    refine mjGo.run 5 (pc' := 49) (F' := ([some (.ref 43), some (.int m), some (.int w), some (.int c), some (.int s), some (.int (nI j))], [.int c, .int (nI j), .int w, .int m, .ref 43], mjH I X)) (fun _ => rfl) ?_
    refine mjGo.call (n := 5) (j := 167) (nx := 52) (o := some (.int (mIsS I m w (nI j) c))) (h' := mjH I X) (fun _ => rfl) (c_mIsS d m w (nI j) c) ?_
    show mjGo _ _ 52 ([some (.ref 43), some (.int m), some (.int w), some (.int c), some (.int s), some (.int (nI j))], [.int (mIsS I m w (nI j) c)], mjH I X) _
    refine mjGo.run 1 (pc' := (bif decide ((mIsS I m w (nI j) c) = 0) then 60 else 55)) (F' := ([some (.ref 43), some (.int m), some (.int w), some (.int c), some (.int s), some (.int (nI j))], [], mjH I X)) (fun _ => rfl) ?_
    refine mjGo.br (fun q1 => ?_) (fun q1 => ?_)
    · show mjGo _ _ 60 _ _
      refine mjGo.run 4 (pc' := 36) (F' := ([some (.ref 43), some (.int m), some (.int w), some (.int c), some (.int s), some (.int ((nI j) + 1))], [], mjH I X)) (fun _ => rfl) ?_
      have e9 : mRestL I m w c (k + 1) j s = mRestL I m w c k (j + 1) s := by first | (rw [mRestL]; done) | rw [mRestL, if_pos q1]
      rw [e9]
      have k9 := ih (j + 1) s (by omega)
      rw [← nI_1] at k9
      exact k9
    · show mjGo _ _ 55 _ _
      refine mjGo.run 5 (pc' := 36) (F' := ([some (.ref 43), some (.int m), some (.int w), some (.int c), some (.int (nI j)), some (.int ((nI j) + 1))], [], mjH I X)) (fun _ => rfl) ?_
      have e9 : mRestL I m w c (k + 1) j s = mRestL I m w c k (j + 1) (nI j) := by first | (rw [mRestL]; done) | rw [mRestL, if_neg q1]
      rw [e9]
      have k9 := ih (j + 1) (nI j) (by omega)
      rw [← nI_1] at k9
      exact k9
def mpRest (I : Nat → Nat → Int32) (m w c : Int32) : Int32 := if (mMin m) = 0 then (-1) else (if (mIn w 0 60) = 0 then (-1) else (if (mIn c 0 9) ≠ 0 then mRestL I m w c 13 0 (-4) else (-1)))
theorem c_mpRest (d : Nat) {I : Nat → Nat → Int32} {X : MX} (m w c : Int32) : mjEv (d + 2) nyX12_rest [.ref 43, .int m, .int w, .int c] (mjH I X) (.inl (some (.int (mpRest I m w c)))) (mjH I X) := by
  refine mjEv.of ?_
  show mjGo (d + 2) nyX12_rest 0 ([some (.ref 43), some (.int m), some (.int w), some (.int c), none, none], [], mjH I X) _
  refine mjGo.run 1 (pc' := 1) (F' := ([some (.ref 43), some (.int m), some (.int w), some (.int c), none, none], [.int m], mjH I X)) (fun _ => rfl) ?_
  refine mjGo.call (n := 1) (j := 133) (nx := 4) (o := some (.int (mMin m))) (h' := mjH I X) (fun _ => rfl) (c_mMin d m _) ?_
  show mjGo _ _ 4 ([some (.ref 43), some (.int m), some (.int w), some (.int c), none, none], [.int (mMin m)], mjH I X) _
  refine mjGo.run 1 (pc' := (bif decide ((mMin m) = 0) then 27 else 7)) (F' := ([some (.ref 43), some (.int m), some (.int w), some (.int c), none, none], [], mjH I X)) (fun _ => rfl) ?_
  refine mjGo.br (fun q1 => ?_) (fun q1 => ?_)
  · show mjGo _ _ 27 _ _
    have e9 : mpRest I m w c = (-1) := by unfold mpRest; rw [if_pos q1]
    rw [e9]
    exact mjGo.ret 2 (fun _ => rfl) rfl
  · show mjGo _ _ 7 _ _
    refine mjGo.run 3 (pc' := 11) (F' := ([some (.ref 43), some (.int m), some (.int w), some (.int c), none, none], [.int 60, .int 0, .int w], mjH I X)) (fun _ => rfl) ?_
    refine mjGo.call (n := 3) (j := 132) (nx := 14) (o := some (.int (mIn w 0 60))) (h' := mjH I X) (fun _ => rfl) (c_mIn (d + 1) w 0 60 _) ?_
    show mjGo _ _ 14 ([some (.ref 43), some (.int m), some (.int w), some (.int c), none, none], [.int (mIn w 0 60)], mjH I X) _
    refine mjGo.run 1 (pc' := (bif decide ((mIn w 0 60) = 0) then 27 else 17)) (F' := ([some (.ref 43), some (.int m), some (.int w), some (.int c), none, none], [], mjH I X)) (fun _ => rfl) ?_
    refine mjGo.br (fun q2 => ?_) (fun q2 => ?_)
    · show mjGo _ _ 27 _ _
      have e9 : mpRest I m w c = (-1) := by unfold mpRest; rw [if_neg q1, if_pos q2]
      rw [e9]
      exact mjGo.ret 2 (fun _ => rfl) rfl
    · show mjGo _ _ 17 _ _
      refine mjGo.run 3 (pc' := 21) (F' := ([some (.ref 43), some (.int m), some (.int w), some (.int c), none, none], [.int 9, .int 0, .int c], mjH I X)) (fun _ => rfl) ?_
      refine mjGo.call (n := 3) (j := 132) (nx := 24) (o := some (.int (mIn c 0 9))) (h' := mjH I X) (fun _ => rfl) (c_mIn (d + 1) c 0 9 _) ?_
      show mjGo _ _ 24 ([some (.ref 43), some (.int m), some (.int w), some (.int c), none, none], [.int (mIn c 0 9)], mjH I X) _
      refine mjGo.run 1 (pc' := (bif decide ((mIn c 0 9) ≠ 0) then 29 else 27)) (F' := ([some (.ref 43), some (.int m), some (.int w), some (.int c), none, none], [], mjH I X)) (fun _ => rfl) ?_
      refine mjGo.br (fun q3 => ?_) (fun q3 => ?_)
      · show mjGo _ _ 29 _ _
        refine mjGo.run 4 (pc' := 36) (F' := ([some (.ref 43), some (.int m), some (.int w), some (.int c), some (.int (-4)), some (.int 0)], [], mjH I X)) (fun _ => rfl) ?_
        have e9 : mpRest I m w c = mRestL I m w c 13 0 (-4) := by unfold mpRest; rw [if_neg q1, if_neg q2, if_pos q3]
        rw [e9]
        exact l_mRestL d m w c 13 0 (-4) (by omega)
      · show mjGo _ _ 27 _ _
        have e9 : mpRest I m w c = (-1) := by unfold mpRest; rw [if_neg q1, if_neg q2, if_neg q3]
        rw [e9]
        exact mjGo.ret 2 (fun _ => rfl) rfl
def xWalksL (I : Nat → Nat → Int32) : Nat → Nat → Int32 → Int32
  | 0, j, s => s
  | k + 1, j, s => xWalksL I k (j + 1) (s + (I 3 j))
theorem l_xWalksL (d : Nat) {I : Nat → Nat → Int32} {X : MX} {n9 : Nat} (h5 : n9 ≤ 5) (h15 : I 1 5 = nI n9) : ∀ (k j : Nat) (s : Int32), j + k = n9 → mjGo (d + 1) nyX10_allWalks 4 ([some (.ref 1), some (.int s), some (.int (nI j))], [], mjH I X) (fun x => x = (.inl (some (.int (xWalksL I k j s))), mjH I X)) := by
  intro k
  induction k with
  | zero =>
    intro j s hj
    refine mjGo.run 3 (pc' := (bif decide (5 ≤ (nI j)) then 32 else 9)) (F' := ([some (.ref 1), some (.int s), some (.int (nI j))], [], mjH I X)) (fun _ => rfl) ?_
    refine mjGo.br (fun q1 => ?_) (fun q1 => ?_)
    · show mjGo _ _ 32 _ _
      have e9 : xWalksL I 0 j s = s := by first | (rw [xWalksL]; done) | rw [xWalksL, if_pos q1]
      rw [e9]
      exact mjGo.ret 2 (fun _ => rfl) rfl
    · show mjGo _ _ 9 _ _
      refine mjGo.run 3 (pc' := 14) (F' := ([some (.ref 1), some (.int s), some (.int (nI j))], [.int (I 1 5), .int (nI j)], mjH I X)) (fun _ => rfl) ?_
      refine mjGo.run 1 (pc' := (bif decide ((I 1 5) ≤ (nI j)) then 32 else 17)) (F' := ([some (.ref 1), some (.int s), some (.int (nI j))], [], mjH I X)) (fun _ => rfl) ?_
      refine mjGo.brT (show (I 1 5) ≤ (nI j) by rw [h15, nI_leI (by omega) (by omega)]; omega) ?_
      show mjGo _ _ 32 _ _
      have e9 : xWalksL I 0 j s = s := by first | (rw [xWalksL]; done) | rw [xWalksL, if_neg q1]
      rw [e9]
      exact mjGo.ret 2 (fun _ => rfl) rfl
  | succ k ih =>
    intro j s hj
    refine mjGo.run 2 (pc' := 6) (F' := ([some (.ref 1), some (.int s), some (.int (nI j))], [.int 5, .int (nI j)], mjH I X)) (fun _ => rfl) ?_
    refine mjGo.run 1 (pc' := (bif decide (5 ≤ (nI j)) then 32 else 9)) (F' := ([some (.ref 1), some (.int s), some (.int (nI j))], [], mjH I X)) (fun _ => rfl) ?_
    refine mjGo.brF (show ¬ 5 ≤ (nI j) by rw [show (5 : Int32) = nI 5 from rfl, nI_leI (by omega) (by omega)]; omega) ?_
    show mjGo _ _ 9 _ _
    refine mjGo.run 3 (pc' := 14) (F' := ([some (.ref 1), some (.int s), some (.int (nI j))], [.int (I 1 5), .int (nI j)], mjH I X)) (fun _ => rfl) ?_
    refine mjGo.run 1 (pc' := (bif decide ((I 1 5) ≤ (nI j)) then 32 else 17)) (F' := ([some (.ref 1), some (.int s), some (.int (nI j))], [], mjH I X)) (fun _ => rfl) ?_
    refine mjGo.brF (show ¬ (I 1 5) ≤ (nI j) by rw [h15, nI_leI (by omega) (by omega)]; omega) ?_
    show mjGo _ _ 17 _ _
    refine mjGo.run 4 (pc' := 23) (F' := ([some (.ref 1), some (.int s), some (.int (nI j))], [.int (nI j), .ref 3, .int s], mjH I X)) (fun _ => rfl) ?_
    refine mjGo.op (pc' := 24) (F' := ([some (.ref 1), some (.int s), some (.int (nI j))], [.int (I 3 j), .int s], mjH I X)) (o := mjiald 24) rfl (fun _ => mjald_n (n := 5) (by omega) (by decide) (rfl) (rfl)) ?_
    refine mjGo.run 4 (pc' := 4) (F' := ([some (.ref 1), some (.int (s + (I 3 j))), some (.int ((nI j) + 1))], [], mjH I X)) (fun _ => rfl) ?_
    have e9 : xWalksL I (k + 1) j s = xWalksL I k (j + 1) (s + (I 3 j)) := by first | (rw [xWalksL]; done) | rw [xWalksL]
    rw [e9]
    have k9 := ih (j + 1) (s + (I 3 j)) (by omega)
    rw [← nI_1] at k9
    exact k9
theorem i32_nlt {a b : Int32} : (a ≤ b) = ¬ b < a := propext Int32.not_lt.symm
theorem xOther_eq {l : Nat} (hl : l < 3) : ∀ {m : Nat}, m < 720 → xOther (nI m) (nI l) = mPrice (nI l) ((nI m + 60) - (nI m + 60) / 720 * 720) := by
  have key : ((List.range 720).all fun m => (List.range 3).all fun l => decide (xOther (nI m) (nI l) = mPrice (nI l) ((nI m + 60) - (nI m + 60) / 720 * 720))) = true := by decide +kernel
  intro m hm
  have h1 := List.all_eq_true.mp key m (List.mem_range.mpr hm)
  have h2 := List.all_eq_true.mp h1 l (List.mem_range.mpr hl)
  exact of_decide_eq_true h2
theorem k_buys (d : Nat) (m w a c : Int32) : CALL (d + 12) nyX11_buys nyX12_buys [.ref 0, .int m, .int w, .int a, .int c] [.ref 43, .int m, .int w, .int a, .int c] := CALL.pure2 fun I X hR => by
  obtain ⟨lw, hlw, h18, h44⟩ := tR_law hR
  refine ⟨_, _, c_xpBuys (d + 10) m w a c, c_mpBuys (d + 10) m w a c, ?_⟩
  unfold xpBuys mpBuys mIsS xOffer mIn
  rw [← xMin_eq, h18, h44]
  by_cases h : xMin m = 0
  · simp [h]
  · rw [xP_eq hlw h]
    simp only [i32_nlt]
    by_cases h1 : w < 0 <;> by_cases h2 : 60 < w <;> by_cases h3 : a < 0 <;> by_cases h4 : 12 < a <;> by_cases h5 : c < 0 <;> by_cases h6 : 9 < c <;> by_cases h7 : a + w * c < mPrice (nI lw) m <;> simp [h, h1, h2, h3, h4, h5, h6, h7]
theorem k_cheaper (d : Nat) (m : Int32) : CALL (d + 12) nyX11_cheaper nyX12_cheaper [.ref 0, .int m] [.ref 43, .int m] := CALL.pure2 fun I X hR => by
  obtain ⟨lw, hlw, h18, h44⟩ := tR_law hR
  refine ⟨_, _, c_xpCheaper (d + 10) m, c_mpCheaper (d + 10) m, ?_⟩
  unfold xpCheaper mpCheaper mOther
  rw [← xMin_eq, h18, h44]
  by_cases h : xMin m = 0
  · rw [if_neg (fun q => q h), if_pos h]
  · rw [if_pos h, if_neg h, xP_eq hlw h]
    obtain ⟨j, hj, rfl⟩ := xMin_n h
    rw [xOther_eq hlw hj]
theorem nine_eq (I : Nat → Nat → Int32) {lw : Nat} {m v : Int32} (h44 : I 44 3 = nI lw) : ∀ (k j : Nat), 1 ≤ j → j + k = 10 → xNineL I m v (mPrice (nI lw) m) k j = mNineL I m v k j
  | 0, _, _, _ => rfl
  | k + 1, j, h1, h => by
    rw [xNineL, mNineL, nine_eq I h44 k (j + 1) (by omega) (by omega), h44]
    unfold xPart mShare
    rw [if_pos (show (1 : Int32) ≤ nI j from (nI_leI (a := 1) (by omega) (by omega)).mpr h1)]
theorem k_nine (d : Nat) (m v : Int32) : CALL (d + 12) nyX11_nine nyX12_nine [.ref 0, .int m, .int v] [.ref 43, .int m, .int v] := CALL.pure2 fun I X hR => by
  obtain ⟨lw, hlw, h18, h44⟩ := tR_law hR
  refine ⟨_, _, c_xpNine (d + 11) m v, c_mpNine (d + 10) m v, ?_⟩
  unfold xpNine mpNine mIn
  rw [← xMin_eq, h18]
  by_cases h : xMin m = 0
  · rw [if_pos h, if_pos h]
  · rw [if_neg h, if_neg h, xP_eq hlw h, nine_eq I h44 9 1 (by omega) (by omega)]
    simp only [i32_nlt]
    by_cases h1 : v < 1 <;> by_cases h2 : 20 < v <;> simp [h1, h2]
theorem waits_eq (I : Nat → Nat → Int32) {lw m : Nat} {p : Int32} (hl : lw < 3) (h44 : I 44 3 = nI lw) : ∀ (k j : Nat), j + k = 720 → mWaitsL I m p k j = if nI (fst9 (fun j => !(decide (p < xPrice (nI j) (nI lw)))) k j) ≠ 720 then nI (fst9 (fun j => !(decide (p < xPrice (nI j) (nI lw)))) k j) - nI m else -4
  | 0, j, h => by
    have e : j = 720 := by omega
    subst e
    rfl
  | k + 1, j, h => by
    rw [mWaitsL, fst9, h44, ← xPrice_eq hl (show j < 720 by omega)]
    by_cases q : p < xPrice (nI j) (nI lw)
    · rw [if_pos q, decide_eq_true q, waits_eq I hl h44 k (j + 1) (by omega)]
      rfl
    · rw [if_neg q, decide_eq_false q]
      show _ = if nI j ≠ 720 then nI j - nI m else -4
      rw [if_pos (show nI j ≠ 720 by rw [show (720 : Int32) = nI 720 from rfl]; intro e; rw [nI_eq (by omega) (by omega)] at e; omega)]
theorem k_waits (d : Nat) (m p : Int32) : CALL (d + 12) nyX11_waits nyX12_waits [.ref 0, .int m, .int p] [.ref 43, .int m, .int p] := CALL.pure2 fun I X hR => by
  obtain ⟨lw, hlw, h18, h44⟩ := tR_law hR
  by_cases h : xMin m = 0
  · exact ⟨_, _, c_xpWaitsN (d + 9) m p h, c_mpWaitsN (d + 9) m p h, rfl⟩
  · obtain ⟨j, hj, rfl⟩ := xMin_n h
    refine ⟨_, _, c_xpWaits (d + 10) j p hj, c_mpWaits (d + 10) j p hj, ?_⟩
    unfold xpWaits mpWaits mIn xCh
    rw [← xMin_eq, if_neg h, if_neg h, h18, waits_eq I hlw h44 (720 - j) j (by omega)]
    simp only [i32_nlt]
    by_cases h1 : p < 0 <;> by_cases h2 : 20 < p <;> simp [h1, h2]
theorem oc_eq (I : Nat → Nat → Int32) {lw : Nat} (hl : lw < 3) (h18 : I 1 8 = nI lw) (h44 : I 44 3 = nI lw) : ∀ (k j : Nat) (s : Int32), j + k = 720 → xOcL I k j s = mOcL I k j s
  | 0, j, s, h => rfl
  | k + 1, j, s, h => by
    unfold xOcL mOcL mOther
    rw [h18, h44, xPrice_eq hl (show j < 720 by omega), xOther_eq hl (show j < 720 by omega), Int32.add_zero, oc_eq I hl h18 h44 k (j + 1) s (by omega), oc_eq I hl h18 h44 k (j + 1) (s + 1) (by omega)]
theorem k_otherCheaper (d : Nat) : CALL (d + 12) nyX11_otherCheaper nyX12_otherCheaper [.ref 0] [.ref 43] := CALL.pure2 fun I X hR => by
  obtain ⟨lw, hlw, h18, h44⟩ := tR_law hR
  exact ⟨_, _, c_xpOc (d + 10), c_mpOc (d + 10), oc_eq I hlw h18 h44 720 0 0 (by omega)⟩
