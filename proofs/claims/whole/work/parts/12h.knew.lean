/-! new lookers -/
def lkI (I : Nat → Nat → Int32) (a : Nat) (nm fg dr wk : Int32) : Nat → Nat → Int32 := mjU (mjU (mjU (mjU I a 0 nm) a 1 fg) a 2 dr) a 3 wk
def nwX (X : MX) (c : Nat) : MX := (mjR X.1 (X.2.2.2.1 + 75) (fun _ => none), mjR X.2.1 (X.2.2.2.1 + 75) (fun _ => 0), (fun a => if a = X.2.2.2.1 + 75 then (c, 0) else X.2.2.1 a), X.2.2.2.1 + 1, X.2.2.2.2.1 + 1, X.2.2.2.2.2 + 4)
def nwI (I : Nat → Nat → Int32) (X : MX) : Nat → Nat → Int32 := mjR I (X.2.2.2.1 + 75) (fun _ => 0)
theorem mjfix_hi {a j : Nat} (h : 75 ≤ a) : mjfix a j = none := by
  have e1 : Nat.ble a 27 = false := ble_no (by omega)
  have e2 : Nat.ble a 35 = false := ble_no (by omega)
  have e3 : Nat.ble a 39 = false := ble_no (by omega)
  have e4 : Nat.ble a 41 = false := ble_no (by omega)
  have e5 : Nat.beq a 43 = false := by
    cases e : Nat.beq a 43
    · rfl
    · have := Nat.eq_of_beq_eq_true e
      omega
  unfold mjfix
  rw [e1, e2, e3, e4, e5]
  rfl
theorem new_H {I : Nat → Nat → Int32} {X : MX} {c : Nat} : mjNew (mjH I X) c 0 4 = mjH (nwI I X) (nwX X c) := by
  have e1 : mjR (mjfP X.1) (X.2.2.2.1 + 75) (fun _ => none) = mjfP (mjR X.1 (X.2.2.2.1 + 75) (fun _ => none)) := by
    funext a j
    unfold mjR mjfP
    by_cases h : a = X.2.2.2.1 + 75
    · rw [if_pos h, mjfix_hi (show 75 ≤ a by omega)]
      show none = (if a = X.2.2.2.1 + 75 then none else X.1 a j)
      rw [if_pos h]
    · rw [if_neg h]
      show _ = (match mjfix a j with | some k => some k | none => if a = X.2.2.2.1 + 75 then none else X.1 a j)
      rw [if_neg h]
      rfl
  have e2 : (fun a => if a = X.2.2.2.1 + 75 then (c, 0) else mjfT X.2.2.1 a) = mjfT (fun a => if a = X.2.2.2.1 + 75 then (c, 0) else X.2.2.1 a) := by
    funext a
    unfold mjfT
    dsimp only
    by_cases h : a = X.2.2.2.1 + 75
    · rw [if_pos h, if_pos h]
      have e : Nat.blt a 75 = false := by
        cases e : Nat.blt a 75
        · rfl
        · have := Nat.blt_eq.mp e
          omega
      rw [e]
      rfl
    · rw [if_neg h, if_neg h]
  unfold mjNew mjH nwX nwI
  dsimp only
  rw [e1, e2]
theorem new_op {c nx : Nat} {I : Nat → Nat → Int32} {X : MX} {al : List (Option Value)} {st : List Value} {call : MCall} (hN : X.2.2.2.1 + 75 < 900000) : mjnew c 4 nx call (al, st, mjH I X) = some (.inl (nx, (al, .ref (X.2.2.2.1 + 75) :: st, mjH (nwI I X) (nwX X c)))) := by
  unfold mjnew
  show (bif Nat.blt (X.2.2.2.1 + 75) 900000 then (some (.inl (nx, (al, .ref (X.2.2.2.1 + 75) :: st, mjNew (mjH I X) c 0 4))) : Option ((Nat × MF) ⊕ (MO × MH))) else none) = _
  rw [Nat.blt_eq.mpr hN, new_H]
  rfl
theorem putI_lk {I : Nat → Nat → Int32} {X : MX} {a kd j nx : Nat} {v : Int32} {al : List (Option Value)} {st : List Value} {call : MCall} (h : lkK X a kd) : mjputI [0, 1, 2, 4, 5, 7, 8, 9] j nx call (al, .int v :: .ref a :: st, mjH I X) = some (.inl (nx, (al, st, mjH (mjU I a j v) X))) := by
  unfold mjputI
  show (bif Nat.blt a (mjN (mjH I X)) && [0, 1, 2, 4, 5, 7, 8, 9].contains (mjT (mjH I X) a).1 then (some (.inl (nx, (al, st, mjsI (mjH I X) a j v))) : Option ((Nat × MF) ⊕ (MO × MH))) else none) = _
  rw [mjH_T h.1, h.2.2.1, lkc_in h.2.2.2, Nat.blt_eq.mpr (show a < mjN (mjH I X) from h.2.1)]
  rfl
theorem nwX_K {X : MX} {kd : Nat} (h : kd < 8) : lkK (nwX X (lkc kd)) (X.2.2.2.1 + 75) kd := ⟨by omega, by show _ < X.2.2.2.1 + 1 + 75; omega, if_pos rfl, h⟩
theorem nwX_le {X : MX} {c : Nat} : xle X (nwX X c) := ⟨fun k j h => by
  show mjR X.1 (X.2.2.2.1 + 75) (fun _ => none) k j = _
  exact if_neg (by omega), fun k h => if_neg (by omega), Nat.le_succ _⟩
theorem nwI_eq {I : Nat → Nat → Int32} {X : MX} {nm fg dr wk : Int32} : eqN (X.2.2.2.1 + 75) I (lkI (nwI I X) (X.2.2.2.1 + 75) nm fg dr wk) := fun k j _ h => by
  unfold lkI
  rw [mjU_ob (by omega), mjU_ob (by omega), mjU_ob (by omega), mjU_ob (by omega)]
  exact if_neg (by omega)
theorem c_in4 (d : Nat) {a kd : Nat} {nm fg dr wk : Int32} {I : Nat → Nat → Int32} {X : MX} (h : lkK X a kd) : mjEv d nyX4_init [.ref a, .int nm, .int fg, .int dr, .int wk] (mjH I X) (.inl none) (mjH (lkI I a nm fg dr wk) X) := by
  refine mjEv.of ?_
  show mjGo d nyX4_init 0 ([some (.ref a), some (.int nm), some (.int fg), some (.int dr), some (.int wk)], [], mjH I X) _
  refine mjGo.run 4 (pc' := 6) (F' := ([some (.ref a), some (.int nm), some (.int fg), some (.int dr), some (.int wk)], [.int nm, .ref a], mjH I X)) (fun _ => rfl) ?_
  refine mjGo.op (pc' := 9) (F' := ([some (.ref a), some (.int nm), some (.int fg), some (.int dr), some (.int wk)], [], mjH (mjU I a 0 nm) X)) (o := mjputI [0, 1, 2, 4, 5, 7, 8, 9] 0 9) rfl (fun _ => putI_lk h) ?_
  refine mjGo.run 2 (pc' := 11) (F' := ([some (.ref a), some (.int nm), some (.int fg), some (.int dr), some (.int wk)], [.int fg, .ref a], mjH (mjU I a 0 nm) X)) (fun _ => rfl) ?_
  refine mjGo.op (pc' := 14) (F' := ([some (.ref a), some (.int nm), some (.int fg), some (.int dr), some (.int wk)], [], mjH (mjU (mjU I a 0 nm) a 1 fg) X)) (o := mjputI [0, 1, 2, 4, 5, 7, 8, 9] 1 14) rfl (fun _ => putI_lk h) ?_
  refine mjGo.run 2 (pc' := 16) (F' := ([some (.ref a), some (.int nm), some (.int fg), some (.int dr), some (.int wk)], [.int dr, .ref a], mjH (mjU (mjU I a 0 nm) a 1 fg) X)) (fun _ => rfl) ?_
  refine mjGo.op (pc' := 19) (F' := ([some (.ref a), some (.int nm), some (.int fg), some (.int dr), some (.int wk)], [], mjH (mjU (mjU (mjU I a 0 nm) a 1 fg) a 2 dr) X)) (o := mjputI [0, 1, 2, 4, 5, 7, 8, 9] 2 19) rfl (fun _ => putI_lk h) ?_
  refine mjGo.run 2 (pc' := 22) (F' := ([some (.ref a), some (.int nm), some (.int fg), some (.int dr), some (.int wk)], [.int wk, .ref a], mjH (mjU (mjU (mjU I a 0 nm) a 1 fg) a 2 dr) X)) (fun _ => rfl) ?_
  refine mjGo.op (pc' := 25) (F' := ([some (.ref a), some (.int nm), some (.int fg), some (.int dr), some (.int wk)], [], mjH (mjU (mjU (mjU (mjU I a 0 nm) a 1 fg) a 2 dr) a 3 wk) X)) (o := mjputI [0, 1, 2, 4, 5, 7, 8, 9] 3 25) rfl (fun _ => putI_lk h) ?_
  exact mjGo.ret 1 (fun _ => rfl) rfl
theorem c_in5 (d : Nat) {a kd : Nat} {nm fg dr wk : Int32} {I : Nat → Nat → Int32} {X : MX} (h : lkK X a kd) : mjEv (d + 1) nyX5_init [.ref a, .int nm, .int fg, .int dr, .int wk] (mjH I X) (.inl none) (mjH (lkI I a nm fg dr wk) X) := by
  refine mjEv.of ?_
  show mjGo (d + 1) nyX5_init 0 ([some (.ref a), some (.int nm), some (.int fg), some (.int dr), some (.int wk)], [], mjH I X) _
  refine mjGo.run 5 (pc' := 6) (F' := ([some (.ref a), some (.int nm), some (.int fg), some (.int dr), some (.int wk)], [.int wk, .int dr, .int fg, .int nm, .ref a], mjH I X)) (fun _ => rfl) ?_
  refine mjGo.callR (j := 9) (nx := 9) (o := none) (h' := mjH (lkI I a nm fg dr wk) X) rfl rfl rfl (h.2.1) (c_in4 _ h) ?_
  show mjGo _ _ 9 ([some (.ref a), some (.int nm), some (.int fg), some (.int dr), some (.int wk)], [], mjH (lkI I a nm fg dr wk) X) _
  exact mjGo.ret 1 (fun _ => rfl) rfl
theorem c_in2 (d : Nat) {a kd : Nat} {nm fg dr wk : Int32} {I : Nat → Nat → Int32} {X : MX} (h : lkK X a kd) : mjEv (d + 1) nyX2_init [.ref a, .int nm, .int fg, .int dr, .int wk] (mjH I X) (.inl none) (mjH (lkI I a nm fg dr wk) X) := by
  refine mjEv.of ?_
  show mjGo (d + 1) nyX2_init 0 ([some (.ref a), some (.int nm), some (.int fg), some (.int dr), some (.int wk)], [], mjH I X) _
  refine mjGo.run 5 (pc' := 6) (F' := ([some (.ref a), some (.int nm), some (.int fg), some (.int dr), some (.int wk)], [.int wk, .int dr, .int fg, .int nm, .ref a], mjH I X)) (fun _ => rfl) ?_
  refine mjGo.callR (j := 9) (nx := 9) (o := none) (h' := mjH (lkI I a nm fg dr wk) X) rfl rfl rfl (h.2.1) (c_in4 _ h) ?_
  show mjGo _ _ 9 ([some (.ref a), some (.int nm), some (.int fg), some (.int dr), some (.int wk)], [], mjH (lkI I a nm fg dr wk) X) _
  exact mjGo.ret 1 (fun _ => rfl) rfl
theorem c_in9 (d : Nat) {a kd : Nat} {nm fg dr wk : Int32} {I : Nat → Nat → Int32} {X : MX} (h : lkK X a kd) : mjEv (d + 1) nyX9_init [.ref a, .int nm, .int fg, .int dr, .int wk] (mjH I X) (.inl none) (mjH (lkI I a nm fg dr wk) X) := by
  refine mjEv.of ?_
  show mjGo (d + 1) nyX9_init 0 ([some (.ref a), some (.int nm), some (.int fg), some (.int dr), some (.int wk)], [], mjH I X) _
  refine mjGo.run 5 (pc' := 6) (F' := ([some (.ref a), some (.int nm), some (.int fg), some (.int dr), some (.int wk)], [.int wk, .int dr, .int fg, .int nm, .ref a], mjH I X)) (fun _ => rfl) ?_
  refine mjGo.callR (j := 9) (nx := 9) (o := none) (h' := mjH (lkI I a nm fg dr wk) X) rfl rfl rfl (h.2.1) (c_in4 _ h) ?_
  show mjGo _ _ 9 ([some (.ref a), some (.int nm), some (.int fg), some (.int dr), some (.int wk)], [], mjH (lkI I a nm fg dr wk) X) _
  exact mjGo.ret 1 (fun _ => rfl) rfl
theorem c_in1 (d : Nat) {a kd : Nat} {nm fg dr wk : Int32} {I : Nat → Nat → Int32} {X : MX} (h : lkK X a kd) : mjEv (d + 2) nyX1_init [.ref a, .int nm, .int fg, .int dr, .int wk] (mjH I X) (.inl none) (mjH (lkI I a nm fg dr wk) X) := by
  refine mjEv.of ?_
  show mjGo (d + 2) nyX1_init 0 ([some (.ref a), some (.int nm), some (.int fg), some (.int dr), some (.int wk)], [], mjH I X) _
  refine mjGo.run 5 (pc' := 6) (F' := ([some (.ref a), some (.int nm), some (.int fg), some (.int dr), some (.int wk)], [.int wk, .int dr, .int fg, .int nm, .ref a], mjH I X)) (fun _ => rfl) ?_
  refine mjGo.callR (j := 10) (nx := 9) (o := none) (h' := mjH (lkI I a nm fg dr wk) X) rfl rfl rfl (h.2.1) (c_in2 _ h) ?_
  show mjGo _ _ 9 ([some (.ref a), some (.int nm), some (.int fg), some (.int dr), some (.int wk)], [], mjH (lkI I a nm fg dr wk) X) _
  exact mjGo.ret 1 (fun _ => rfl) rfl
theorem c_in0 (d : Nat) {a kd : Nat} {nm fg dr wk : Int32} {I : Nat → Nat → Int32} {X : MX} (h : lkK X a kd) : mjEv (d + 2) nyX0_init [.ref a, .int nm, .int fg, .int dr, .int wk] (mjH I X) (.inl none) (mjH (lkI I a nm fg dr wk) X) := by
  refine mjEv.of ?_
  show mjGo (d + 2) nyX0_init 0 ([some (.ref a), some (.int nm), some (.int fg), some (.int dr), some (.int wk)], [], mjH I X) _
  refine mjGo.run 5 (pc' := 6) (F' := ([some (.ref a), some (.int nm), some (.int fg), some (.int dr), some (.int wk)], [.int wk, .int dr, .int fg, .int nm, .ref a], mjH I X)) (fun _ => rfl) ?_
  refine mjGo.callR (j := 10) (nx := 9) (o := none) (h' := mjH (lkI I a nm fg dr wk) X) rfl rfl rfl (h.2.1) (c_in2 _ h) ?_
  show mjGo _ _ 9 ([some (.ref a), some (.int nm), some (.int fg), some (.int dr), some (.int wk)], [], mjH (lkI I a nm fg dr wk) X) _
  exact mjGo.ret 1 (fun _ => rfl) rfl
theorem c_in8 (d : Nat) {a kd : Nat} {nm fg dr wk : Int32} {I : Nat → Nat → Int32} {X : MX} (h : lkK X a kd) : mjEv (d + 2) nyX8_init [.ref a, .int nm, .int fg, .int dr, .int wk] (mjH I X) (.inl none) (mjH (lkI I a nm fg dr wk) X) := by
  refine mjEv.of ?_
  show mjGo (d + 2) nyX8_init 0 ([some (.ref a), some (.int nm), some (.int fg), some (.int dr), some (.int wk)], [], mjH I X) _
  refine mjGo.run 5 (pc' := 6) (F' := ([some (.ref a), some (.int nm), some (.int fg), some (.int dr), some (.int wk)], [.int wk, .int dr, .int fg, .int nm, .ref a], mjH I X)) (fun _ => rfl) ?_
  refine mjGo.callR (j := 10) (nx := 9) (o := none) (h' := mjH (lkI I a nm fg dr wk) X) rfl rfl rfl (h.2.1) (c_in2 _ h) ?_
  show mjGo _ _ 9 ([some (.ref a), some (.int nm), some (.int fg), some (.int dr), some (.int wk)], [], mjH (lkI I a nm fg dr wk) X) _
  exact mjGo.ret 1 (fun _ => rfl) rfl
theorem c_in7 (d : Nat) {a kd : Nat} {nm fg dr wk : Int32} {I : Nat → Nat → Int32} {X : MX} (h : lkK X a kd) : mjEv (d + 3) nyX7_init [.ref a, .int nm, .int fg, .int dr, .int wk] (mjH I X) (.inl none) (mjH (lkI I a nm fg dr wk) X) := by
  refine mjEv.of ?_
  show mjGo (d + 3) nyX7_init 0 ([some (.ref a), some (.int nm), some (.int fg), some (.int dr), some (.int wk)], [], mjH I X) _
  refine mjGo.run 5 (pc' := 6) (F' := ([some (.ref a), some (.int nm), some (.int fg), some (.int dr), some (.int wk)], [.int wk, .int dr, .int fg, .int nm, .ref a], mjH I X)) (fun _ => rfl) ?_
  refine mjGo.callR (j := 17) (nx := 9) (o := none) (h' := mjH (lkI I a nm fg dr wk) X) rfl rfl rfl (h.2.1) (c_in1 _ h) ?_
  show mjGo _ _ 9 ([some (.ref a), some (.int nm), some (.int fg), some (.int dr), some (.int wk)], [], mjH (lkI I a nm fg dr wk) X) _
  exact mjGo.ret 1 (fun _ => rfl) rfl
theorem c_nwL (d : Nat) {kd : Nat} {nm fg dr wk : Int32} {I : Nat → Nat → Int32} {X : MX} (hk : kd < 8) (hN : X.2.2.2.1 + 75 < 900000) : mjEv (d + 4) nyX11_newLooker [.int (nI kd), .int nm, .int fg, .int dr, .int wk] (mjH I X) (.inl (some (.ref (X.2.2.2.1 + 75)))) (mjH (lkI (nwI I X) (X.2.2.2.1 + 75) nm fg dr wk) (nwX X (lkc kd))) := by
  refine kd_cases (P := fun kd => mjEv (d + 4) nyX11_newLooker [.int (nI kd), .int nm, .int fg, .int dr, .int wk] (mjH I X) (.inl (some (.ref (X.2.2.2.1 + 75)))) (mjH (lkI (nwI I X) (X.2.2.2.1 + 75) nm fg dr wk) (nwX X (lkc kd)))) hk ?_ ?_ ?_ ?_ ?_ ?_ ?_ ?_
  · refine mjEv.of ?_
    show mjGo (d + 4) nyX11_newLooker 0 ([some (.int 0), some (.int nm), some (.int fg), some (.int dr), some (.int wk)], [], mjH I X) _
    refine mjGo.run 2 (pc' := 135) (F' := ([some (.int 0), some (.int nm), some (.int fg), some (.int dr), some (.int wk)], [], mjH I X)) (fun _ => rfl) ?_
    refine mjGo.op (pc' := 138) (F' := ([some (.int 0), some (.int nm), some (.int fg), some (.int dr), some (.int wk)], [.ref (X.2.2.2.1 + 75)], mjH (nwI I X) (nwX X 4))) (o := mjnew 4 4 138) rfl (fun _ => new_op hN) ?_
    refine mjGo.run 5 (pc' := 144) (F' := ([some (.int 0), some (.int nm), some (.int fg), some (.int dr), some (.int wk)], [.int wk, .int dr, .int fg, .int nm, .ref (X.2.2.2.1 + 75), .ref (X.2.2.2.1 + 75)], mjH (nwI I X) (nwX X 4))) (fun _ => rfl) ?_
    refine mjGo.callR (j := 9) (nx := 147) (o := none) (h' := mjH (lkI (nwI I X) (X.2.2.2.1 + 75) nm fg dr wk) (nwX X 4)) rfl rfl rfl ((show X.2.2.2.1 + 75 < X.2.2.2.1 + 1 + 75 by omega)) (c_in4 (kd := 0) (d + 3) (nwX_K (kd := 0) (by omega))) ?_
    show mjGo _ _ 147 ([some (.int 0), some (.int nm), some (.int fg), some (.int dr), some (.int wk)], [.ref (X.2.2.2.1 + 75)], mjH (lkI (nwI I X) (X.2.2.2.1 + 75) nm fg dr wk) (nwX X 4)) _
    exact mjGo.ret 1 (fun _ => rfl) rfl
  · refine mjEv.of ?_
    show mjGo (d + 4) nyX11_newLooker 0 ([some (.int 1), some (.int nm), some (.int fg), some (.int dr), some (.int wk)], [], mjH I X) _
    refine mjGo.run 2 (pc' := 44) (F' := ([some (.int 1), some (.int nm), some (.int fg), some (.int dr), some (.int wk)], [], mjH I X)) (fun _ => rfl) ?_
    refine mjGo.op (pc' := 47) (F' := ([some (.int 1), some (.int nm), some (.int fg), some (.int dr), some (.int wk)], [.ref (X.2.2.2.1 + 75)], mjH (nwI I X) (nwX X 5))) (o := mjnew 5 4 47) rfl (fun _ => new_op hN) ?_
    refine mjGo.run 5 (pc' := 53) (F' := ([some (.int 1), some (.int nm), some (.int fg), some (.int dr), some (.int wk)], [.int wk, .int dr, .int fg, .int nm, .ref (X.2.2.2.1 + 75), .ref (X.2.2.2.1 + 75)], mjH (nwI I X) (nwX X 5))) (fun _ => rfl) ?_
    refine mjGo.callR (j := 47) (nx := 56) (o := none) (h' := mjH (lkI (nwI I X) (X.2.2.2.1 + 75) nm fg dr wk) (nwX X 5)) rfl rfl rfl ((show X.2.2.2.1 + 75 < X.2.2.2.1 + 1 + 75 by omega)) (c_in5 (kd := 1) (d + 2) (nwX_K (kd := 1) (by omega))) ?_
    show mjGo _ _ 56 ([some (.int 1), some (.int nm), some (.int fg), some (.int dr), some (.int wk)], [.ref (X.2.2.2.1 + 75)], mjH (lkI (nwI I X) (X.2.2.2.1 + 75) nm fg dr wk) (nwX X 5)) _
    exact mjGo.ret 1 (fun _ => rfl) rfl
  · refine mjEv.of ?_
    show mjGo (d + 4) nyX11_newLooker 0 ([some (.int 2), some (.int nm), some (.int fg), some (.int dr), some (.int wk)], [], mjH I X) _
    refine mjGo.run 2 (pc' := 57) (F' := ([some (.int 2), some (.int nm), some (.int fg), some (.int dr), some (.int wk)], [], mjH I X)) (fun _ => rfl) ?_
    refine mjGo.op (pc' := 60) (F' := ([some (.int 2), some (.int nm), some (.int fg), some (.int dr), some (.int wk)], [.ref (X.2.2.2.1 + 75)], mjH (nwI I X) (nwX X 2))) (o := mjnew 2 4 60) rfl (fun _ => new_op hN) ?_
    refine mjGo.run 5 (pc' := 66) (F' := ([some (.int 2), some (.int nm), some (.int fg), some (.int dr), some (.int wk)], [.int wk, .int dr, .int fg, .int nm, .ref (X.2.2.2.1 + 75), .ref (X.2.2.2.1 + 75)], mjH (nwI I X) (nwX X 2))) (fun _ => rfl) ?_
    refine mjGo.callR (j := 10) (nx := 69) (o := none) (h' := mjH (lkI (nwI I X) (X.2.2.2.1 + 75) nm fg dr wk) (nwX X 2)) rfl rfl rfl ((show X.2.2.2.1 + 75 < X.2.2.2.1 + 1 + 75 by omega)) (c_in2 (kd := 2) (d + 2) (nwX_K (kd := 2) (by omega))) ?_
    show mjGo _ _ 69 ([some (.int 2), some (.int nm), some (.int fg), some (.int dr), some (.int wk)], [.ref (X.2.2.2.1 + 75)], mjH (lkI (nwI I X) (X.2.2.2.1 + 75) nm fg dr wk) (nwX X 2)) _
    exact mjGo.ret 1 (fun _ => rfl) rfl
  · refine mjEv.of ?_
    show mjGo (d + 4) nyX11_newLooker 0 ([some (.int 3), some (.int nm), some (.int fg), some (.int dr), some (.int wk)], [], mjH I X) _
    refine mjGo.run 2 (pc' := 70) (F' := ([some (.int 3), some (.int nm), some (.int fg), some (.int dr), some (.int wk)], [], mjH I X)) (fun _ => rfl) ?_
    refine mjGo.op (pc' := 73) (F' := ([some (.int 3), some (.int nm), some (.int fg), some (.int dr), some (.int wk)], [.ref (X.2.2.2.1 + 75)], mjH (nwI I X) (nwX X 1))) (o := mjnew 1 4 73) rfl (fun _ => new_op hN) ?_
    refine mjGo.run 5 (pc' := 79) (F' := ([some (.int 3), some (.int nm), some (.int fg), some (.int dr), some (.int wk)], [.int wk, .int dr, .int fg, .int nm, .ref (X.2.2.2.1 + 75), .ref (X.2.2.2.1 + 75)], mjH (nwI I X) (nwX X 1))) (fun _ => rfl) ?_
    refine mjGo.callR (j := 17) (nx := 82) (o := none) (h' := mjH (lkI (nwI I X) (X.2.2.2.1 + 75) nm fg dr wk) (nwX X 1)) rfl rfl rfl ((show X.2.2.2.1 + 75 < X.2.2.2.1 + 1 + 75 by omega)) (c_in1 (kd := 3) (d + 1) (nwX_K (kd := 3) (by omega))) ?_
    show mjGo _ _ 82 ([some (.int 3), some (.int nm), some (.int fg), some (.int dr), some (.int wk)], [.ref (X.2.2.2.1 + 75)], mjH (lkI (nwI I X) (X.2.2.2.1 + 75) nm fg dr wk) (nwX X 1)) _
    exact mjGo.ret 1 (fun _ => rfl) rfl
  · refine mjEv.of ?_
    show mjGo (d + 4) nyX11_newLooker 0 ([some (.int 4), some (.int nm), some (.int fg), some (.int dr), some (.int wk)], [], mjH I X) _
    refine mjGo.run 2 (pc' := 83) (F' := ([some (.int 4), some (.int nm), some (.int fg), some (.int dr), some (.int wk)], [], mjH I X)) (fun _ => rfl) ?_
    refine mjGo.op (pc' := 86) (F' := ([some (.int 4), some (.int nm), some (.int fg), some (.int dr), some (.int wk)], [.ref (X.2.2.2.1 + 75)], mjH (nwI I X) (nwX X 0))) (o := mjnew 0 4 86) rfl (fun _ => new_op hN) ?_
    refine mjGo.run 5 (pc' := 92) (F' := ([some (.int 4), some (.int nm), some (.int fg), some (.int dr), some (.int wk)], [.int wk, .int dr, .int fg, .int nm, .ref (X.2.2.2.1 + 75), .ref (X.2.2.2.1 + 75)], mjH (nwI I X) (nwX X 0))) (fun _ => rfl) ?_
    refine mjGo.callR (j := 11) (nx := 95) (o := none) (h' := mjH (lkI (nwI I X) (X.2.2.2.1 + 75) nm fg dr wk) (nwX X 0)) rfl rfl rfl ((show X.2.2.2.1 + 75 < X.2.2.2.1 + 1 + 75 by omega)) (c_in0 (kd := 4) (d + 1) (nwX_K (kd := 4) (by omega))) ?_
    show mjGo _ _ 95 ([some (.int 4), some (.int nm), some (.int fg), some (.int dr), some (.int wk)], [.ref (X.2.2.2.1 + 75)], mjH (lkI (nwI I X) (X.2.2.2.1 + 75) nm fg dr wk) (nwX X 0)) _
    exact mjGo.ret 1 (fun _ => rfl) rfl
  · refine mjEv.of ?_
    show mjGo (d + 4) nyX11_newLooker 0 ([some (.int 5), some (.int nm), some (.int fg), some (.int dr), some (.int wk)], [], mjH I X) _
    refine mjGo.run 2 (pc' := 96) (F' := ([some (.int 5), some (.int nm), some (.int fg), some (.int dr), some (.int wk)], [], mjH I X)) (fun _ => rfl) ?_
    refine mjGo.op (pc' := 99) (F' := ([some (.int 5), some (.int nm), some (.int fg), some (.int dr), some (.int wk)], [.ref (X.2.2.2.1 + 75)], mjH (nwI I X) (nwX X 8))) (o := mjnew 8 4 99) rfl (fun _ => new_op hN) ?_
    refine mjGo.run 5 (pc' := 105) (F' := ([some (.int 5), some (.int nm), some (.int fg), some (.int dr), some (.int wk)], [.int wk, .int dr, .int fg, .int nm, .ref (X.2.2.2.1 + 75), .ref (X.2.2.2.1 + 75)], mjH (nwI I X) (nwX X 8))) (fun _ => rfl) ?_
    refine mjGo.callR (j := 60) (nx := 108) (o := none) (h' := mjH (lkI (nwI I X) (X.2.2.2.1 + 75) nm fg dr wk) (nwX X 8)) rfl rfl rfl ((show X.2.2.2.1 + 75 < X.2.2.2.1 + 1 + 75 by omega)) (c_in8 (kd := 5) (d + 1) (nwX_K (kd := 5) (by omega))) ?_
    show mjGo _ _ 108 ([some (.int 5), some (.int nm), some (.int fg), some (.int dr), some (.int wk)], [.ref (X.2.2.2.1 + 75)], mjH (lkI (nwI I X) (X.2.2.2.1 + 75) nm fg dr wk) (nwX X 8)) _
    exact mjGo.ret 1 (fun _ => rfl) rfl
  · refine mjEv.of ?_
    show mjGo (d + 4) nyX11_newLooker 0 ([some (.int 6), some (.int nm), some (.int fg), some (.int dr), some (.int wk)], [], mjH I X) _
    refine mjGo.run 2 (pc' := 109) (F' := ([some (.int 6), some (.int nm), some (.int fg), some (.int dr), some (.int wk)], [], mjH I X)) (fun _ => rfl) ?_
    refine mjGo.op (pc' := 112) (F' := ([some (.int 6), some (.int nm), some (.int fg), some (.int dr), some (.int wk)], [.ref (X.2.2.2.1 + 75)], mjH (nwI I X) (nwX X 9))) (o := mjnew 9 4 112) rfl (fun _ => new_op hN) ?_
    refine mjGo.run 5 (pc' := 118) (F' := ([some (.int 6), some (.int nm), some (.int fg), some (.int dr), some (.int wk)], [.int wk, .int dr, .int fg, .int nm, .ref (X.2.2.2.1 + 75), .ref (X.2.2.2.1 + 75)], mjH (nwI I X) (nwX X 9))) (fun _ => rfl) ?_
    refine mjGo.callR (j := 63) (nx := 121) (o := none) (h' := mjH (lkI (nwI I X) (X.2.2.2.1 + 75) nm fg dr wk) (nwX X 9)) rfl rfl rfl ((show X.2.2.2.1 + 75 < X.2.2.2.1 + 1 + 75 by omega)) (c_in9 (kd := 6) (d + 2) (nwX_K (kd := 6) (by omega))) ?_
    show mjGo _ _ 121 ([some (.int 6), some (.int nm), some (.int fg), some (.int dr), some (.int wk)], [.ref (X.2.2.2.1 + 75)], mjH (lkI (nwI I X) (X.2.2.2.1 + 75) nm fg dr wk) (nwX X 9)) _
    exact mjGo.ret 1 (fun _ => rfl) rfl
  · refine mjEv.of ?_
    show mjGo (d + 4) nyX11_newLooker 0 ([some (.int 7), some (.int nm), some (.int fg), some (.int dr), some (.int wk)], [], mjH I X) _
    refine mjGo.run 2 (pc' := 122) (F' := ([some (.int 7), some (.int nm), some (.int fg), some (.int dr), some (.int wk)], [], mjH I X)) (fun _ => rfl) ?_
    refine mjGo.op (pc' := 125) (F' := ([some (.int 7), some (.int nm), some (.int fg), some (.int dr), some (.int wk)], [.ref (X.2.2.2.1 + 75)], mjH (nwI I X) (nwX X 7))) (o := mjnew 7 4 125) rfl (fun _ => new_op hN) ?_
    refine mjGo.run 5 (pc' := 131) (F' := ([some (.int 7), some (.int nm), some (.int fg), some (.int dr), some (.int wk)], [.int wk, .int dr, .int fg, .int nm, .ref (X.2.2.2.1 + 75), .ref (X.2.2.2.1 + 75)], mjH (nwI I X) (nwX X 7))) (fun _ => rfl) ?_
    refine mjGo.callR (j := 57) (nx := 134) (o := none) (h' := mjH (lkI (nwI I X) (X.2.2.2.1 + 75) nm fg dr wk) (nwX X 7)) rfl rfl rfl ((show X.2.2.2.1 + 75 < X.2.2.2.1 + 1 + 75 by omega)) (c_in7 (kd := 7) (d + 0) (nwX_K (kd := 7) (by omega))) ?_
    show mjGo _ _ 134 ([some (.int 7), some (.int nm), some (.int fg), some (.int dr), some (.int wk)], [.ref (X.2.2.2.1 + 75)], mjH (lkI (nwI I X) (X.2.2.2.1 + 75) nm fg dr wk) (nwX X 7)) _
    exact mjGo.ret 1 (fun _ => rfl) rfl
