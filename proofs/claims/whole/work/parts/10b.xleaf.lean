/-! the class: small methods of lookers and towns -/
theorem mjdiv_ok {f : Int32 → Int32 → Int32} {al : List (Option Value)} {r : List Value} {x y : Int32} {h : MH} {nx : Nat} {call : MCall} (hy : ¬ y = 0) : mjdiv f nx call (al, .int y :: .int x :: r, h) = some (.inl (nx, (al, .int (f x y) :: r, h))) := by
  unfold mjdiv
  dsimp only
  rw [decide_eq_false hy]
  rfl
def xPart (w n : Int32) : Int32 := if 1 ≤ n then (((w + n) - 1) / n) else w
theorem c_xPart (d : Nat) (w n : Int32) (h : MH) : mjEv d nyX11_part [.int w, .int n] h (.inl (some (.int (xPart w n)))) h := by
  refine mjEv.of ?_
  show mjGo d nyX11_part 0 ([some (.int w), some (.int n)], [], h) _
  refine mjGo.run 3 (pc' := (bif decide (1 ≤ n) then 9 else 5)) (F' := ([some (.int w), some (.int n)], [], h)) (fun _ => rfl) ?_
  refine mjGo.br (fun q1 => ?_) (fun q1 => ?_)
  · show mjGo _ _ 9 _ _
    refine mjGo.run 6 (pc' := 15) (F' := ([some (.int w), some (.int n)], [.int n, .int ((w + n) - 1)], h)) (fun _ => rfl) ?_
    refine mjGo.op (pc' := 16) (F' := ([some (.int w), some (.int n)], [.int (((w + n) - 1) / n)], h)) (o := mjdiv (fun x y => x / y) 16) rfl (fun _ => mjdiv_ok (fun e => by subst e; exact absurd (show (1 : Int32) ≤ 0 from q1) (by decide))) ?_
    have e9 : xPart w n = (((w + n) - 1) / n) := by unfold xPart; rw [if_pos q1]
    rw [e9]
    exact mjGo.ret 1 (fun _ => rfl) rfl
  · show mjGo _ _ 5 _ _
    have e9 : xPart w n = w := by unfold xPart; rw [if_neg q1]
    rw [e9]
    exact mjGo.ret 3 (fun _ => rfl) rfl
def xE4 (f : Int32) : Int32 := 0
theorem c_xE4 (d : Nat) (a : Nat) (f : Int32) (h : MH) : mjEv d nyX4_early [.ref a, .int f] h (.inl (some (.int (xE4 f)))) h := by
  refine mjEv.of ?_
  show mjGo d nyX4_early 0 ([some (.ref a), some (.int f)], [], h) _
  have e9 : xE4 f = 0 := by unfold xE4; rfl
  rw [e9]
  exact mjGo.ret 2 (fun _ => rfl) rfl
def xE5 (f : Int32) : Int32 := (2 * f)
theorem c_xE5 (d : Nat) (a : Nat) (f : Int32) (h : MH) : mjEv d nyX5_early [.ref a, .int f] h (.inl (some (.int (xE5 f)))) h := by
  refine mjEv.of ?_
  show mjGo d nyX5_early 0 ([some (.ref a), some (.int f)], [], h) _
  have e9 : xE5 f = (2 * f) := by unfold xE5; rfl
  rw [e9]
  exact mjGo.ret 4 (fun _ => rfl) rfl
def xE9 (f : Int32) : Int32 := f
theorem c_xE9 (d : Nat) (a : Nat) (f : Int32) (h : MH) : mjEv d nyX9_early [.ref a, .int f] h (.inl (some (.int (xE9 f)))) h := by
  refine mjEv.of ?_
  show mjGo d nyX9_early 0 ([some (.ref a), some (.int f)], [], h) _
  have e9 : xE9 f = f := by unfold xE9; rfl
  rw [e9]
  exact mjGo.ret 2 (fun _ => rfl) rfl
def xN4 (x y z : Int32) : Int32 := 720
theorem c_xN4 (d : Nat) (a q : Nat) (x y z : Int32) (h : MH) : mjEv d nyX4_nextLook [.ref a, .ref q, .int x, .int y, .int z] h (.inl (some (.int (xN4 x y z)))) h := by
  refine mjEv.of ?_
  show mjGo d nyX4_nextLook 0 ([some (.ref a), some (.ref q), some (.int x), some (.int y), some (.int z)], [], h) _
  have e9 : xN4 x y z = 720 := by unfold xN4; rfl
  rw [e9]
  exact mjGo.ret 2 (fun _ => rfl) rfl
def xN2 (x y z : Int32) : Int32 := if z ≤ 0 then x else 720
theorem c_xN2 (d : Nat) (a q : Nat) (x y z : Int32) (h : MH) : mjEv d nyX2_nextLook [.ref a, .ref q, .int x, .int y, .int z] h (.inl (some (.int (xN2 x y z)))) h := by
  refine mjEv.of ?_
  show mjGo d nyX2_nextLook 0 ([some (.ref a), some (.ref q), some (.int x), some (.int y), some (.int z)], [], h) _
  refine mjGo.run 2 (pc' := (bif decide (z ≤ 0) then 11 else 5)) (F' := ([some (.ref a), some (.ref q), some (.int x), some (.int y), some (.int z)], [], h)) (fun _ => rfl) ?_
  refine mjGo.br (fun q1 => ?_) (fun q1 => ?_)
  · show mjGo _ _ 11 _ _
    have e9 : xN2 x y z = x := by unfold xN2; rw [if_pos q1]
    rw [e9]
    exact mjGo.ret 2 (fun _ => rfl) rfl
  · show mjGo _ _ 5 _ _
    have e9 : xN2 x y z = 720 := by unfold xN2; rw [if_neg q1]
    rw [e9]
    exact mjGo.ret 3 (fun _ => rfl) rfl
def xF4 (p : Int32) : Int32 := p
theorem c_xF4 (d : Nat) (a : Nat) (p : Int32) (h : MH) : mjEv d nyX4_fee [.ref a, .int p] h (.inl (some (.int (xF4 p)))) h := by
  refine mjEv.of ?_
  show mjGo d nyX4_fee 0 ([some (.ref a), some (.int p)], [], h) _
  have e9 : xF4 p = p := by unfold xF4; rfl
  rw [e9]
  exact mjGo.ret 2 (fun _ => rfl) rfl
def xF8 (p : Int32) : Int32 := (xPart p 2)
theorem c_xF8 (d : Nat) (a : Nat) (p : Int32) (h : MH) : mjEv (d + 1) nyX8_fee [.ref a, .int p] h (.inl (some (.int (xF8 p)))) h := by
  refine mjEv.of ?_
  show mjGo (d + 1) nyX8_fee 0 ([some (.ref a), some (.int p)], [], h) _
  refine mjGo.run 2 (pc' := 2) (F' := ([some (.ref a), some (.int p)], [.int 2, .int p], h)) (fun _ => rfl) ?_
  refine mjGo.call (n := 2) (j := 37) (nx := 5) (o := some (.int (xPart p 2))) (h' := h) (fun _ => rfl) (c_xPart d p 2 _) ?_
  show mjGo _ _ 5 ([some (.ref a), some (.int p)], [.int (xPart p 2)], h) _
  have e9 : xF8 p = (xPart p 2) := by unfold xF8; rfl
  rw [e9]
  exact mjGo.ret 1 (fun _ => rfl) rfl
def xF7 (p : Int32) : Int32 := (mjmax 0 (p - 2))
theorem c_xF7 (d : Nat) (a : Nat) (p : Int32) (h : MH) : mjEv d nyX7_fee [.ref a, .int p] h (.inl (some (.int (xF7 p)))) h := by
  refine mjEv.of ?_
  show mjGo d nyX7_fee 0 ([some (.ref a), some (.int p)], [], h) _
  have e9 : xF7 p = (mjmax 0 (p - 2)) := by unfold xF7; rfl
  rw [e9]
  exact mjGo.ret 6 (fun _ => rfl) rfl
def xC4 : Int32 := 0
theorem z_xC4 : xC4 = 0 ∨ xC4 = 1 := by
  unfold xC4
  repeat' split
  all_goals first | exact Or.inl rfl | exact Or.inr rfl | exact z_mIn _ _ _ | exact z_mMin _ | exact z_mClock _ | exact z_xMin _ | exact z_xShelf _ | exact z_xOffer _ _ _ | exact z_xDigit _
theorem c_xC4 (d : Nat) (a : Nat) (h : MH) : mjEv d nyX4_choosesFigure [.ref a] h (.inl (some (.int (xC4)))) h := by
  refine mjEv.of ?_
  show mjGo d nyX4_choosesFigure 0 ([some (.ref a)], [], h) _
  have e9 : xC4 = 0 := by unfold xC4; rfl
  rw [e9]
  exact mjGo.ret 2 (fun _ => rfl) rfl
def xC0 : Int32 := 1
theorem z_xC0 : xC0 = 0 ∨ xC0 = 1 := by
  unfold xC0
  repeat' split
  all_goals first | exact Or.inl rfl | exact Or.inr rfl | exact z_mIn _ _ _ | exact z_mMin _ | exact z_mClock _ | exact z_xMin _ | exact z_xShelf _ | exact z_xOffer _ _ _ | exact z_xDigit _ | exact z_xC4
theorem c_xC0 (d : Nat) (a : Nat) (h : MH) : mjEv d nyX0_choosesFigure [.ref a] h (.inl (some (.int (xC0)))) h := by
  refine mjEv.of ?_
  show mjGo d nyX0_choosesFigure 0 ([some (.ref a)], [], h) _
  have e9 : xC0 = 1 := by unfold xC0; rfl
  rw [e9]
  exact mjGo.ret 2 (fun _ => rfl) rfl
def xK4 : Int32 := 0
theorem c_xK4 (d : Nat) (a : Nat) (h : MH) : mjEv d nyX4_kind [.ref a] h (.inl (some (.int (xK4)))) h := by
  refine mjEv.of ?_
  show mjGo d nyX4_kind 0 ([some (.ref a)], [], h) _
  have e9 : xK4 = 0 := by unfold xK4; rfl
  rw [e9]
  exact mjGo.ret 2 (fun _ => rfl) rfl
def xK5 : Int32 := 1
theorem c_xK5 (d : Nat) (a : Nat) (h : MH) : mjEv d nyX5_kind [.ref a] h (.inl (some (.int (xK5)))) h := by
  refine mjEv.of ?_
  show mjGo d nyX5_kind 0 ([some (.ref a)], [], h) _
  have e9 : xK5 = 1 := by unfold xK5; rfl
  rw [e9]
  exact mjGo.ret 2 (fun _ => rfl) rfl
def xK2 : Int32 := 2
theorem c_xK2 (d : Nat) (a : Nat) (h : MH) : mjEv d nyX2_kind [.ref a] h (.inl (some (.int (xK2)))) h := by
  refine mjEv.of ?_
  show mjGo d nyX2_kind 0 ([some (.ref a)], [], h) _
  have e9 : xK2 = 2 := by unfold xK2; rfl
  rw [e9]
  exact mjGo.ret 2 (fun _ => rfl) rfl
def xK1 : Int32 := 3
theorem c_xK1 (d : Nat) (a : Nat) (h : MH) : mjEv d nyX1_kind [.ref a] h (.inl (some (.int (xK1)))) h := by
  refine mjEv.of ?_
  show mjGo d nyX1_kind 0 ([some (.ref a)], [], h) _
  have e9 : xK1 = 3 := by unfold xK1; rfl
  rw [e9]
  exact mjGo.ret 2 (fun _ => rfl) rfl
def xK0 : Int32 := 4
theorem c_xK0 (d : Nat) (a : Nat) (h : MH) : mjEv d nyX0_kind [.ref a] h (.inl (some (.int (xK0)))) h := by
  refine mjEv.of ?_
  show mjGo d nyX0_kind 0 ([some (.ref a)], [], h) _
  have e9 : xK0 = 4 := by unfold xK0; rfl
  rw [e9]
  exact mjGo.ret 2 (fun _ => rfl) rfl
def xK8 : Int32 := 5
theorem c_xK8 (d : Nat) (a : Nat) (h : MH) : mjEv d nyX8_kind [.ref a] h (.inl (some (.int (xK8)))) h := by
  refine mjEv.of ?_
  show mjGo d nyX8_kind 0 ([some (.ref a)], [], h) _
  have e9 : xK8 = 5 := by unfold xK8; rfl
  rw [e9]
  exact mjGo.ret 2 (fun _ => rfl) rfl
def xK9 : Int32 := 6
theorem c_xK9 (d : Nat) (a : Nat) (h : MH) : mjEv d nyX9_kind [.ref a] h (.inl (some (.int (xK9)))) h := by
  refine mjEv.of ?_
  show mjGo d nyX9_kind 0 ([some (.ref a)], [], h) _
  have e9 : xK9 = 6 := by unfold xK9; rfl
  rw [e9]
  exact mjGo.ret 2 (fun _ => rfl) rfl
def xK7 : Int32 := 7
theorem c_xK7 (d : Nat) (a : Nat) (h : MH) : mjEv d nyX7_kind [.ref a] h (.inl (some (.int (xK7)))) h := by
  refine mjEv.of ?_
  show mjGo d nyX7_kind 0 ([some (.ref a)], [], h) _
  have e9 : xK7 = 7 := by unfold xK7; rfl
  rw [e9]
  exact mjGo.ret 2 (fun _ => rfl) rfl
