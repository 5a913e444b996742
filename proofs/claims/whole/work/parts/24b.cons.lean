/-! the constructors: the states that they go through -/
def cs0 (xs : Nat → Int32) (L : Nat) : MH := ((fun a => if a = 2000000 then xs else fun _ => 0), (fun _ _ => none), (fun _ _ => 0), (fun a => if a = 2000000 then (13, L) else (0, 0)), 0, 0, 0)
def cs1 (xs : Nat → Int32) (L : Nat) : MH := mjNew (cs0 xs L) 11 0 10
def cs2 (xs : Nat → Int32) (L : Nat) : MH := mjNew (cs1 xs L) 10 0 9
def cs3 (xs : Nat → Int32) (L : Nat) : MH := mjNew (cs2 xs L) 13 5 5
def cs4 (xs : Nat → Int32) (L : Nat) : MH := mjsP (cs3 xs L) 1 0 (some 2)
def cs5 (xs : Nat → Int32) (L : Nat) : MH := mjNew (cs4 xs L) 13 5 5
def cs6 (xs : Nat → Int32) (L : Nat) : MH := mjsP (cs5 xs L) 1 1 (some 3)
def cs7 (xs : Nat → Int32) (L : Nat) : MH := mjNew (cs6 xs L) 13 5 5
def cs8 (xs : Nat → Int32) (L : Nat) : MH := mjsP (cs7 xs L) 1 2 (some 4)
def cs9 (xs : Nat → Int32) (L : Nat) : MH := mjNew (cs8 xs L) 14 6 6
def cs10 (xs : Nat → Int32) (L : Nat) : MH := mjsP (cs9 xs L) 1 3 (some 5)
def cs11 (xs : Nat → Int32) (L : Nat) : MH := mjNew (cs10 xs L) 13 8 8
def cs12 (xs : Nat → Int32) (L : Nat) : MH := mjsP (cs11 xs L) 1 4 (some 6)
def cs13 (xs : Nat → Int32) (L : Nat) : MH := mjsP (cs12 xs L) 0 0 (some 1)
def cs14 (xs : Nat → Int32) (L : Nat) : MH := mjNew (cs13 xs L) 10 0 9
def cs15 (xs : Nat → Int32) (L : Nat) : MH := mjNew (cs14 xs L) 13 5 5
def cs16 (xs : Nat → Int32) (L : Nat) : MH := mjsP (cs15 xs L) 7 0 (some 8)
def cs17 (xs : Nat → Int32) (L : Nat) : MH := mjNew (cs16 xs L) 13 5 5
def cs18 (xs : Nat → Int32) (L : Nat) : MH := mjsP (cs17 xs L) 7 1 (some 9)
def cs19 (xs : Nat → Int32) (L : Nat) : MH := mjNew (cs18 xs L) 13 5 5
def cs20 (xs : Nat → Int32) (L : Nat) : MH := mjsP (cs19 xs L) 7 2 (some 10)
def cs21 (xs : Nat → Int32) (L : Nat) : MH := mjNew (cs20 xs L) 14 6 6
def cs22 (xs : Nat → Int32) (L : Nat) : MH := mjsP (cs21 xs L) 7 3 (some 11)
def cs23 (xs : Nat → Int32) (L : Nat) : MH := mjNew (cs22 xs L) 13 8 8
def cs24 (xs : Nat → Int32) (L : Nat) : MH := mjsP (cs23 xs L) 7 4 (some 12)
def cs25 (xs : Nat → Int32) (L : Nat) : MH := mjsP (cs24 xs L) 0 1 (some 7)
def cs26 (xs : Nat → Int32) (L : Nat) : MH := mjNew (cs25 xs L) 10 0 9
def cs27 (xs : Nat → Int32) (L : Nat) : MH := mjNew (cs26 xs L) 13 5 5
def cs28 (xs : Nat → Int32) (L : Nat) : MH := mjsP (cs27 xs L) 13 0 (some 14)
def cs29 (xs : Nat → Int32) (L : Nat) : MH := mjNew (cs28 xs L) 13 5 5
def cs30 (xs : Nat → Int32) (L : Nat) : MH := mjsP (cs29 xs L) 13 1 (some 15)
def cs31 (xs : Nat → Int32) (L : Nat) : MH := mjNew (cs30 xs L) 13 5 5
def cs32 (xs : Nat → Int32) (L : Nat) : MH := mjsP (cs31 xs L) 13 2 (some 16)
def cs33 (xs : Nat → Int32) (L : Nat) : MH := mjNew (cs32 xs L) 14 6 6
def cs34 (xs : Nat → Int32) (L : Nat) : MH := mjsP (cs33 xs L) 13 3 (some 17)
def cs35 (xs : Nat → Int32) (L : Nat) : MH := mjNew (cs34 xs L) 13 8 8
def cs36 (xs : Nat → Int32) (L : Nat) : MH := mjsP (cs35 xs L) 13 4 (some 18)
def cs37 (xs : Nat → Int32) (L : Nat) : MH := mjsP (cs36 xs L) 0 2 (some 13)
def cs38 (xs : Nat → Int32) (L : Nat) : MH := mjsI (cs37 xs L) 0 3 0
def cs39 (xs : Nat → Int32) (L : Nat) : MH := mjNew (cs38 xs L) 3 0 13
def cs40 (xs : Nat → Int32) (L : Nat) : MH := mjNew (cs39 xs L) 13 13 13
def cs41 (xs : Nat → Int32) (L : Nat) : MH := mjsP (cs40 xs L) 19 0 (some 20)
def cs42 (xs : Nat → Int32) (L : Nat) : MH := mjNew (cs41 xs L) 13 5 5
def cs43 (xs : Nat → Int32) (L : Nat) : MH := mjsP (cs42 xs L) 19 1 (some 21)
def cs44 (xs : Nat → Int32) (L : Nat) : MH := mjsP (cs43 xs L) 0 4 (some 19)
def cs45 (xs : Nat → Int32) (L : Nat) : MH := mjNew (cs44 xs L) 13 5 5
def cs46 (xs : Nat → Int32) (L : Nat) : MH := mjsP (cs45 xs L) 0 5 (some 22)
def cs47 (xs : Nat → Int32) (L : Nat) : MH := mjNew (cs46 xs L) 13 6 6
def cs48 (xs : Nat → Int32) (L : Nat) : MH := mjsP (cs47 xs L) 0 6 (some 23)
def cs49 (xs : Nat → Int32) (L : Nat) : MH := mjNew (cs48 xs L) 13 8 8
def cs50 (xs : Nat → Int32) (L : Nat) : MH := mjsP (cs49 xs L) 0 7 (some 24)
def cs51 (xs : Nat → Int32) (L : Nat) : MH := mjNew (cs50 xs L) 14 8 8
def cs52 (xs : Nat → Int32) (L : Nat) : MH := mjsP (cs51 xs L) 0 8 (some 25)
def cs53 (xs : Nat → Int32) (L : Nat) : MH := mjNew (cs52 xs L) 15 8 8
def cs54 (xs : Nat → Int32) (L : Nat) : MH := mjsP (cs53 xs L) 0 9 (some 26)
def cs55 (xs : Nat → Int32) (L : Nat) : MH := mjNew (cs54 xs L) 6 0 3
def cs56 (xs : Nat → Int32) (L : Nat) : MH := mjNew (cs55 xs L) 13 100 100
def cs57 (xs : Nat → Int32) (L : Nat) : MH := mjsP (cs56 xs L) 27 0 (some 28)
def cs58 (xs : Nat → Int32) (L : Nat) : MH := mjsP (cs57 xs L) 26 0 (some 27)
def cs59 (xs : Nat → Int32) (L : Nat) : MH := mjNew (cs58 xs L) 6 0 3
def cs60 (xs : Nat → Int32) (L : Nat) : MH := mjNew (cs59 xs L) 13 100 100
def cs61 (xs : Nat → Int32) (L : Nat) : MH := mjsP (cs60 xs L) 29 0 (some 30)
def cs62 (xs : Nat → Int32) (L : Nat) : MH := mjsP (cs61 xs L) 26 1 (some 29)
def cs63 (xs : Nat → Int32) (L : Nat) : MH := mjNew (cs62 xs L) 6 0 3
def cs64 (xs : Nat → Int32) (L : Nat) : MH := mjNew (cs63 xs L) 13 100 100
def cs65 (xs : Nat → Int32) (L : Nat) : MH := mjsP (cs64 xs L) 31 0 (some 32)
def cs66 (xs : Nat → Int32) (L : Nat) : MH := mjsP (cs65 xs L) 26 2 (some 31)
def cs67 (xs : Nat → Int32) (L : Nat) : MH := mjNew (cs66 xs L) 6 0 3
def cs68 (xs : Nat → Int32) (L : Nat) : MH := mjNew (cs67 xs L) 13 100 100
def cs69 (xs : Nat → Int32) (L : Nat) : MH := mjsP (cs68 xs L) 33 0 (some 34)
def cs70 (xs : Nat → Int32) (L : Nat) : MH := mjsP (cs69 xs L) 26 3 (some 33)
def cs71 (xs : Nat → Int32) (L : Nat) : MH := mjNew (cs70 xs L) 6 0 3
def cs72 (xs : Nat → Int32) (L : Nat) : MH := mjNew (cs71 xs L) 13 100 100
def cs73 (xs : Nat → Int32) (L : Nat) : MH := mjsP (cs72 xs L) 35 0 (some 36)
def cs74 (xs : Nat → Int32) (L : Nat) : MH := mjsP (cs73 xs L) 26 4 (some 35)
def cs75 (xs : Nat → Int32) (L : Nat) : MH := mjNew (cs74 xs L) 6 0 3
def cs76 (xs : Nat → Int32) (L : Nat) : MH := mjNew (cs75 xs L) 13 100 100
def cs77 (xs : Nat → Int32) (L : Nat) : MH := mjsP (cs76 xs L) 37 0 (some 38)
def cs78 (xs : Nat → Int32) (L : Nat) : MH := mjsP (cs77 xs L) 26 5 (some 37)
def cs79 (xs : Nat → Int32) (L : Nat) : MH := mjNew (cs78 xs L) 6 0 3
def cs80 (xs : Nat → Int32) (L : Nat) : MH := mjNew (cs79 xs L) 13 100 100
def cs81 (xs : Nat → Int32) (L : Nat) : MH := mjsP (cs80 xs L) 39 0 (some 40)
def cs82 (xs : Nat → Int32) (L : Nat) : MH := mjsP (cs81 xs L) 26 6 (some 39)
def cs83 (xs : Nat → Int32) (L : Nat) : MH := mjNew (cs82 xs L) 6 0 3
def cs84 (xs : Nat → Int32) (L : Nat) : MH := mjNew (cs83 xs L) 13 100 100
def cs85 (xs : Nat → Int32) (L : Nat) : MH := mjsP (cs84 xs L) 41 0 (some 42)
def cs86 (xs : Nat → Int32) (L : Nat) : MH := mjsP (cs85 xs L) 26 7 (some 41)
def cs87 (xs : Nat → Int32) (L : Nat) : MH := mjNew (cs86 xs L) 12 0 41
def cs88 (xs : Nat → Int32) (L : Nat) : MH := mjNew (cs87 xs L) 13 4 4
def cs89 (xs : Nat → Int32) (L : Nat) : MH := mjsP (cs88 xs L) 43 0 (some 44)
def cs90 (xs : Nat → Int32) (L : Nat) : MH := mjNew (cs89 xs L) 13 5 5
def cs91 (xs : Nat → Int32) (L : Nat) : MH := mjsP (cs90 xs L) 43 1 (some 45)
def cs92 (xs : Nat → Int32) (L : Nat) : MH := mjNew (cs91 xs L) 13 5 5
def cs93 (xs : Nat → Int32) (L : Nat) : MH := mjsP (cs92 xs L) 43 2 (some 46)
def cs94 (xs : Nat → Int32) (L : Nat) : MH := mjNew (cs93 xs L) 13 5 5
def cs95 (xs : Nat → Int32) (L : Nat) : MH := mjsP (cs94 xs L) 43 3 (some 47)
def cs96 (xs : Nat → Int32) (L : Nat) : MH := mjNew (cs95 xs L) 13 6 6
def cs97 (xs : Nat → Int32) (L : Nat) : MH := mjsP (cs96 xs L) 43 4 (some 48)
def cs98 (xs : Nat → Int32) (L : Nat) : MH := mjNew (cs97 xs L) 13 6 6
def cs99 (xs : Nat → Int32) (L : Nat) : MH := mjsP (cs98 xs L) 43 5 (some 49)
def cs100 (xs : Nat → Int32) (L : Nat) : MH := mjNew (cs99 xs L) 13 6 6
def cs101 (xs : Nat → Int32) (L : Nat) : MH := mjsP (cs100 xs L) 43 6 (some 50)
def cs102 (xs : Nat → Int32) (L : Nat) : MH := mjNew (cs101 xs L) 13 6 6
def cs103 (xs : Nat → Int32) (L : Nat) : MH := mjsP (cs102 xs L) 43 7 (some 51)
def cs104 (xs : Nat → Int32) (L : Nat) : MH := mjNew (cs103 xs L) 13 8 8
def cs105 (xs : Nat → Int32) (L : Nat) : MH := mjsP (cs104 xs L) 43 8 (some 52)
def cs106 (xs : Nat → Int32) (L : Nat) : MH := mjNew (cs105 xs L) 13 4 4
def cs107 (xs : Nat → Int32) (L : Nat) : MH := mjsP (cs106 xs L) 43 10 (some 53)
def cs108 (xs : Nat → Int32) (L : Nat) : MH := mjNew (cs107 xs L) 13 5 5
def cs109 (xs : Nat → Int32) (L : Nat) : MH := mjsP (cs108 xs L) 43 11 (some 54)
def cs110 (xs : Nat → Int32) (L : Nat) : MH := mjNew (cs109 xs L) 13 5 5
def cs111 (xs : Nat → Int32) (L : Nat) : MH := mjsP (cs110 xs L) 43 12 (some 55)
def cs112 (xs : Nat → Int32) (L : Nat) : MH := mjNew (cs111 xs L) 13 5 5
def cs113 (xs : Nat → Int32) (L : Nat) : MH := mjsP (cs112 xs L) 43 13 (some 56)
def cs114 (xs : Nat → Int32) (L : Nat) : MH := mjNew (cs113 xs L) 13 6 6
def cs115 (xs : Nat → Int32) (L : Nat) : MH := mjsP (cs114 xs L) 43 14 (some 57)
def cs116 (xs : Nat → Int32) (L : Nat) : MH := mjNew (cs115 xs L) 13 6 6
def cs117 (xs : Nat → Int32) (L : Nat) : MH := mjsP (cs116 xs L) 43 15 (some 58)
def cs118 (xs : Nat → Int32) (L : Nat) : MH := mjNew (cs117 xs L) 13 6 6
def cs119 (xs : Nat → Int32) (L : Nat) : MH := mjsP (cs118 xs L) 43 16 (some 59)
def cs120 (xs : Nat → Int32) (L : Nat) : MH := mjNew (cs119 xs L) 13 6 6
def cs121 (xs : Nat → Int32) (L : Nat) : MH := mjsP (cs120 xs L) 43 17 (some 60)
def cs122 (xs : Nat → Int32) (L : Nat) : MH := mjNew (cs121 xs L) 13 8 8
def cs123 (xs : Nat → Int32) (L : Nat) : MH := mjsP (cs122 xs L) 43 18 (some 61)
def cs124 (xs : Nat → Int32) (L : Nat) : MH := mjNew (cs123 xs L) 13 16 16
def cs125 (xs : Nat → Int32) (L : Nat) : MH := mjsP (cs124 xs L) 43 21 (some 62)
def cs126 (xs : Nat → Int32) (L : Nat) : MH := mjNew (cs125 xs L) 13 5 5
def cs127 (xs : Nat → Int32) (L : Nat) : MH := mjsP (cs126 xs L) 43 25 (some 63)
def cs128 (xs : Nat → Int32) (L : Nat) : MH := mjNew (cs127 xs L) 13 6 6
def cs129 (xs : Nat → Int32) (L : Nat) : MH := mjsP (cs128 xs L) 43 26 (some 64)
def cs130 (xs : Nat → Int32) (L : Nat) : MH := mjNew (cs129 xs L) 13 4 4
def cs131 (xs : Nat → Int32) (L : Nat) : MH := mjsP (cs130 xs L) 43 31 (some 65)
def cs132 (xs : Nat → Int32) (L : Nat) : MH := mjNew (cs131 xs L) 13 8 8
def cs133 (xs : Nat → Int32) (L : Nat) : MH := mjsP (cs132 xs L) 43 32 (some 66)
def cs134 (xs : Nat → Int32) (L : Nat) : MH := mjNew (cs133 xs L) 13 8 8
def cs135 (xs : Nat → Int32) (L : Nat) : MH := mjsP (cs134 xs L) 43 33 (some 67)
def cs136 (xs : Nat → Int32) (L : Nat) : MH := mjNew (cs135 xs L) 13 8 8
def cs137 (xs : Nat → Int32) (L : Nat) : MH := mjsP (cs136 xs L) 43 34 (some 68)
def cs138 (xs : Nat → Int32) (L : Nat) : MH := mjNew (cs137 xs L) 13 800 800
def cs139 (xs : Nat → Int32) (L : Nat) : MH := mjsP (cs138 xs L) 43 35 (some 69)
def cs140 (xs : Nat → Int32) (L : Nat) : MH := mjNew (cs139 xs L) 13 100 100
def cs141 (xs : Nat → Int32) (L : Nat) : MH := mjsP (cs140 xs L) 43 36 (some 70)
def cs142 (xs : Nat → Int32) (L : Nat) : MH := mjNew (cs141 xs L) 13 8 8
def cs143 (xs : Nat → Int32) (L : Nat) : MH := mjsP (cs142 xs L) 43 37 (some 71)
def cs144 (xs : Nat → Int32) (L : Nat) : MH := mjNew (cs143 xs L) 13 8 8
def cs145 (xs : Nat → Int32) (L : Nat) : MH := mjsP (cs144 xs L) 43 38 (some 72)
def cs146 (xs : Nat → Int32) (L : Nat) : MH := mjNew (cs145 xs L) 13 8 8
def cs147 (xs : Nat → Int32) (L : Nat) : MH := mjsP (cs146 xs L) 43 39 (some 73)
def cs148 (xs : Nat → Int32) (L : Nat) : MH := mjNew (cs147 xs L) 16 1 1
theorem ev2 (d : Nat) (xs : Nat → Int32) (L : Nat) : mjEv d nyX10_init [.ref 1] (cs2 xs L) (.inl none) (cs12 xs L) := by
  refine mjEv.of ?_
  show mjGo d nyX10_init 0 ([some (.ref 1)], [], cs2 xs L) _
  refine mjGo.run 15 (pc' := 26) (F' := ([some (.ref 1)], [.ref 1], cs8 xs L)) (fun _ => rfl) ?_
  exact mjGo.ret 8 (fun _ => rfl) rfl
theorem ev14 (d : Nat) (xs : Nat → Int32) (L : Nat) : mjEv d nyX10_init [.ref 7] (cs14 xs L) (.inl none) (cs24 xs L) := by
  refine mjEv.of ?_
  show mjGo d nyX10_init 0 ([some (.ref 7)], [], cs14 xs L) _
  refine mjGo.run 15 (pc' := 26) (F' := ([some (.ref 7)], [.ref 7], cs20 xs L)) (fun _ => rfl) ?_
  exact mjGo.ret 8 (fun _ => rfl) rfl
theorem ev26 (d : Nat) (xs : Nat → Int32) (L : Nat) : mjEv d nyX10_init [.ref 13] (cs26 xs L) (.inl none) (cs36 xs L) := by
  refine mjEv.of ?_
  show mjGo d nyX10_init 0 ([some (.ref 13)], [], cs26 xs L) _
  refine mjGo.run 15 (pc' := 26) (F' := ([some (.ref 13)], [.ref 13], cs32 xs L)) (fun _ => rfl) ?_
  exact mjGo.ret 8 (fun _ => rfl) rfl
theorem ev39 (d : Nat) (xs : Nat → Int32) (L : Nat) : mjEv d nyX3_init [.ref 19] (cs39 xs L) (.inl none) (cs43 xs L) := by
  refine mjEv.of ?_
  show mjGo d nyX3_init 0 ([some (.ref 19)], [], cs39 xs L) _
  exact mjGo.ret 11 (fun _ => rfl) rfl
theorem ev55 (d : Nat) (xs : Nat → Int32) (L : Nat) : mjEv d nyX6_init [.ref 27] (cs55 xs L) (.inl none) (cs57 xs L) := by
  refine mjEv.of ?_
  show mjGo d nyX6_init 0 ([some (.ref 27)], [], cs55 xs L) _
  exact mjGo.ret 7 (fun _ => rfl) rfl
theorem ev59 (d : Nat) (xs : Nat → Int32) (L : Nat) : mjEv d nyX6_init [.ref 29] (cs59 xs L) (.inl none) (cs61 xs L) := by
  refine mjEv.of ?_
  show mjGo d nyX6_init 0 ([some (.ref 29)], [], cs59 xs L) _
  exact mjGo.ret 7 (fun _ => rfl) rfl
theorem ev63 (d : Nat) (xs : Nat → Int32) (L : Nat) : mjEv d nyX6_init [.ref 31] (cs63 xs L) (.inl none) (cs65 xs L) := by
  refine mjEv.of ?_
  show mjGo d nyX6_init 0 ([some (.ref 31)], [], cs63 xs L) _
  exact mjGo.ret 7 (fun _ => rfl) rfl
theorem ev67 (d : Nat) (xs : Nat → Int32) (L : Nat) : mjEv d nyX6_init [.ref 33] (cs67 xs L) (.inl none) (cs69 xs L) := by
  refine mjEv.of ?_
  show mjGo d nyX6_init 0 ([some (.ref 33)], [], cs67 xs L) _
  exact mjGo.ret 7 (fun _ => rfl) rfl
theorem ev71 (d : Nat) (xs : Nat → Int32) (L : Nat) : mjEv d nyX6_init [.ref 35] (cs71 xs L) (.inl none) (cs73 xs L) := by
  refine mjEv.of ?_
  show mjGo d nyX6_init 0 ([some (.ref 35)], [], cs71 xs L) _
  exact mjGo.ret 7 (fun _ => rfl) rfl
theorem ev75 (d : Nat) (xs : Nat → Int32) (L : Nat) : mjEv d nyX6_init [.ref 37] (cs75 xs L) (.inl none) (cs77 xs L) := by
  refine mjEv.of ?_
  show mjGo d nyX6_init 0 ([some (.ref 37)], [], cs75 xs L) _
  exact mjGo.ret 7 (fun _ => rfl) rfl
theorem ev79 (d : Nat) (xs : Nat → Int32) (L : Nat) : mjEv d nyX6_init [.ref 39] (cs79 xs L) (.inl none) (cs81 xs L) := by
  refine mjEv.of ?_
  show mjGo d nyX6_init 0 ([some (.ref 39)], [], cs79 xs L) _
  exact mjGo.ret 7 (fun _ => rfl) rfl
theorem ev83 (d : Nat) (xs : Nat → Int32) (L : Nat) : mjEv d nyX6_init [.ref 41] (cs83 xs L) (.inl none) (cs85 xs L) := by
  refine mjEv.of ?_
  show mjGo d nyX6_init 0 ([some (.ref 41)], [], cs83 xs L) _
  exact mjGo.ret 7 (fun _ => rfl) rfl
theorem ev1 (d : Nat) (xs : Nat → Int32) (L : Nat) : mjEv (d + 1) nyX11_init [.ref 0] (cs1 xs L) (.inl none) (cs86 xs L) := by
  refine mjEv.of ?_
  show mjGo (d + 1) nyX11_init 0 ([some (.ref 0), none], [], cs1 xs L) _
  refine mjGo.run 5 (pc' := 9) (F' := ([some (.ref 0), none], [.ref 1, .ref 1, .ref 0], cs2 xs L)) (fun _ => rfl) ?_
  refine mjGo.call (n := 1) (j := 66) (nx := 12) (o := none) (h' := cs12 xs L) (fun _ => rfl) (ev2 _ xs L) ?_
  show mjGo _ _ 12 ([some (.ref 0), none], [.ref 1, .ref 0], cs12 xs L) _
  refine mjGo.run 4 (pc' := 20) (F' := ([some (.ref 0), none], [.ref 7, .ref 7, .ref 0], cs14 xs L)) (fun _ => rfl) ?_
  refine mjGo.call (n := 1) (j := 66) (nx := 23) (o := none) (h' := cs24 xs L) (fun _ => rfl) (ev14 _ xs L) ?_
  show mjGo _ _ 23 ([some (.ref 0), none], [.ref 7, .ref 0], cs24 xs L) _
  refine mjGo.run 4 (pc' := 31) (F' := ([some (.ref 0), none], [.ref 13, .ref 13, .ref 0], cs26 xs L)) (fun _ => rfl) ?_
  refine mjGo.call (n := 1) (j := 66) (nx := 34) (o := none) (h' := cs36 xs L) (fun _ => rfl) (ev26 _ xs L) ?_
  show mjGo _ _ 34 ([some (.ref 0), none], [.ref 13, .ref 0], cs36 xs L) _
  refine mjGo.run 7 (pc' := 47) (F' := ([some (.ref 0), none], [.ref 19, .ref 19, .ref 0], cs39 xs L)) (fun _ => rfl) ?_
  refine mjGo.call (n := 1) (j := 25) (nx := 50) (o := none) (h' := cs43 xs L) (fun _ => rfl) (ev39 _ xs L) ?_
  show mjGo _ _ 50 ([some (.ref 0), none], [.ref 19, .ref 0], cs43 xs L) _
  refine mjGo.run 15 (pc' := 79) (F' := ([some (.ref 0), none], [.int 8, .ref 0], cs50 xs L)) (fun _ => rfl) ?_
  refine mjGo.run 15 (pc' := 110) (F' := ([some (.ref 0), some (.int 0)], [.ref 27, .int 0, .ref 26], cs55 xs L)) (fun _ => rfl) ?_
  refine mjGo.run 1 (pc' := 111) (F' := ([some (.ref 0), some (.int 0)], [.ref 27, .ref 27, .int 0, .ref 26], cs55 xs L)) (fun _ => rfl) ?_
  refine mjGo.call (n := 1) (j := 50) (nx := 114) (o := none) (h' := cs57 xs L) (fun _ => rfl) (ev55 _ xs L) ?_
  show mjGo _ _ 114 ([some (.ref 0), some (.int 0)], [.ref 27, .int 0, .ref 26], cs57 xs L) _
  refine mjGo.run 2 (pc' := 118) (F' := ([some (.ref 0), some (.int (0 + 1))], [], cs58 xs L)) (fun _ => rfl) ?_
  rw [show (0 + 1 : Int32) = 1 from by decide]
  refine mjGo.run 9 (pc' := 111) (F' := ([some (.ref 0), some (.int 1)], [.ref 29, .ref 29, .int 1, .ref 26], cs59 xs L)) (fun _ => rfl) ?_
  refine mjGo.call (n := 1) (j := 50) (nx := 114) (o := none) (h' := cs61 xs L) (fun _ => rfl) (ev59 _ xs L) ?_
  show mjGo _ _ 114 ([some (.ref 0), some (.int 1)], [.ref 29, .int 1, .ref 26], cs61 xs L) _
  refine mjGo.run 2 (pc' := 118) (F' := ([some (.ref 0), some (.int (1 + 1))], [], cs62 xs L)) (fun _ => rfl) ?_
  rw [show (1 + 1 : Int32) = 2 from by decide]
  refine mjGo.run 9 (pc' := 111) (F' := ([some (.ref 0), some (.int 2)], [.ref 31, .ref 31, .int 2, .ref 26], cs63 xs L)) (fun _ => rfl) ?_
  refine mjGo.call (n := 1) (j := 50) (nx := 114) (o := none) (h' := cs65 xs L) (fun _ => rfl) (ev63 _ xs L) ?_
  show mjGo _ _ 114 ([some (.ref 0), some (.int 2)], [.ref 31, .int 2, .ref 26], cs65 xs L) _
  refine mjGo.run 2 (pc' := 118) (F' := ([some (.ref 0), some (.int (2 + 1))], [], cs66 xs L)) (fun _ => rfl) ?_
  rw [show (2 + 1 : Int32) = 3 from by decide]
  refine mjGo.run 9 (pc' := 111) (F' := ([some (.ref 0), some (.int 3)], [.ref 33, .ref 33, .int 3, .ref 26], cs67 xs L)) (fun _ => rfl) ?_
  refine mjGo.call (n := 1) (j := 50) (nx := 114) (o := none) (h' := cs69 xs L) (fun _ => rfl) (ev67 _ xs L) ?_
  show mjGo _ _ 114 ([some (.ref 0), some (.int 3)], [.ref 33, .int 3, .ref 26], cs69 xs L) _
  refine mjGo.run 2 (pc' := 118) (F' := ([some (.ref 0), some (.int (3 + 1))], [], cs70 xs L)) (fun _ => rfl) ?_
  rw [show (3 + 1 : Int32) = 4 from by decide]
  refine mjGo.run 9 (pc' := 111) (F' := ([some (.ref 0), some (.int 4)], [.ref 35, .ref 35, .int 4, .ref 26], cs71 xs L)) (fun _ => rfl) ?_
  refine mjGo.call (n := 1) (j := 50) (nx := 114) (o := none) (h' := cs73 xs L) (fun _ => rfl) (ev71 _ xs L) ?_
  show mjGo _ _ 114 ([some (.ref 0), some (.int 4)], [.ref 35, .int 4, .ref 26], cs73 xs L) _
  refine mjGo.run 2 (pc' := 118) (F' := ([some (.ref 0), some (.int (4 + 1))], [], cs74 xs L)) (fun _ => rfl) ?_
  rw [show (4 + 1 : Int32) = 5 from by decide]
  refine mjGo.run 9 (pc' := 111) (F' := ([some (.ref 0), some (.int 5)], [.ref 37, .ref 37, .int 5, .ref 26], cs75 xs L)) (fun _ => rfl) ?_
  refine mjGo.call (n := 1) (j := 50) (nx := 114) (o := none) (h' := cs77 xs L) (fun _ => rfl) (ev75 _ xs L) ?_
  show mjGo _ _ 114 ([some (.ref 0), some (.int 5)], [.ref 37, .int 5, .ref 26], cs77 xs L) _
  refine mjGo.run 2 (pc' := 118) (F' := ([some (.ref 0), some (.int (5 + 1))], [], cs78 xs L)) (fun _ => rfl) ?_
  rw [show (5 + 1 : Int32) = 6 from by decide]
  refine mjGo.run 9 (pc' := 111) (F' := ([some (.ref 0), some (.int 6)], [.ref 39, .ref 39, .int 6, .ref 26], cs79 xs L)) (fun _ => rfl) ?_
  refine mjGo.call (n := 1) (j := 50) (nx := 114) (o := none) (h' := cs81 xs L) (fun _ => rfl) (ev79 _ xs L) ?_
  show mjGo _ _ 114 ([some (.ref 0), some (.int 6)], [.ref 39, .int 6, .ref 26], cs81 xs L) _
  refine mjGo.run 2 (pc' := 118) (F' := ([some (.ref 0), some (.int (6 + 1))], [], cs82 xs L)) (fun _ => rfl) ?_
  rw [show (6 + 1 : Int32) = 7 from by decide]
  refine mjGo.run 9 (pc' := 111) (F' := ([some (.ref 0), some (.int 7)], [.ref 41, .ref 41, .int 7, .ref 26], cs83 xs L)) (fun _ => rfl) ?_
  refine mjGo.call (n := 1) (j := 50) (nx := 114) (o := none) (h' := cs85 xs L) (fun _ => rfl) (ev83 _ xs L) ?_
  show mjGo _ _ 114 ([some (.ref 0), some (.int 7)], [.ref 41, .int 7, .ref 26], cs85 xs L) _
  refine mjGo.run 2 (pc' := 118) (F' := ([some (.ref 0), some (.int (7 + 1))], [], cs86 xs L)) (fun _ => rfl) ?_
  rw [show (7 + 1 : Int32) = 8 from by decide]
  exact mjGo.ret 5 (fun _ => rfl) rfl
theorem ev87 (d : Nat) (xs : Nat → Int32) (L : Nat) : mjEv d nyX12_init [.ref 43] (cs87 xs L) (.inl none) (cs147 xs L) := by
  refine mjEv.of ?_
  show mjGo d nyX12_init 0 ([some (.ref 43)], [], cs87 xs L) _
  refine mjGo.run 15 (pc' := 26) (F' := ([some (.ref 43)], [.ref 43], cs93 xs L)) (fun _ => rfl) ?_
  refine mjGo.run 15 (pc' := 56) (F' := ([some (.ref 43)], [], cs101 xs L)) (fun _ => rfl) ?_
  refine mjGo.run 15 (pc' := 83) (F' := ([some (.ref 43)], [.ref 54, .ref 43], cs108 xs L)) (fun _ => rfl) ?_
  refine mjGo.run 15 (pc' := 111) (F' := ([some (.ref 43)], [.int 6, .ref 43], cs115 xs L)) (fun _ => rfl) ?_
  refine mjGo.run 15 (pc' := 141) (F' := ([some (.ref 43)], [.ref 43], cs123 xs L)) (fun _ => rfl) ?_
  refine mjGo.run 15 (pc' := 170) (F' := ([some (.ref 43)], [], cs131 xs L)) (fun _ => rfl) ?_
  refine mjGo.run 15 (pc' := 200) (F' := ([some (.ref 43)], [.ref 69, .ref 43], cs138 xs L)) (fun _ => rfl) ?_
  refine mjGo.run 15 (pc' := 230) (F' := ([some (.ref 43)], [.int 8, .ref 43], cs145 xs L)) (fun _ => rfl) ?_
  exact mjGo.ret 3 (fun _ => rfl) rfl
