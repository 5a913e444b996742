/-! rows of the class -/
theorem row_T {I : Nat → Nat → Int32} {X : MX} {e : Nat} (he : e < 8) : mjT (mjH I X) (27 + 2 * e) = (6, 0) ∧ mjT (mjH I X) (28 + 2 * e) = (13, 100) ∧ mjP (mjH I X) (27 + 2 * e) 0 = some (28 + 2 * e) ∧ mjP (mjH I X) 26 e = some (27 + 2 * e) := by
  match e, he with
  | 0, _ => exact ⟨rfl, rfl, rfl, rfl⟩
  | 1, _ => exact ⟨rfl, rfl, rfl, rfl⟩
  | 2, _ => exact ⟨rfl, rfl, rfl, rfl⟩
  | 3, _ => exact ⟨rfl, rfl, rfl, rfl⟩
  | 4, _ => exact ⟨rfl, rfl, rfl, rfl⟩
  | 5, _ => exact ⟨rfl, rfl, rfl, rfl⟩
  | 6, _ => exact ⟨rfl, rfl, rfl, rfl⟩
  | 7, _ => exact ⟨rfl, rfl, rfl, rfl⟩
  | n + 8, h => omega
theorem row_N {I : Nat → Nat → Int32} {X : MX} {e : Nat} (he : e < 8) : 27 + 2 * e < mjN (mjH I X) ∧ 28 + 2 * e < mjN (mjH I X) := by
  show 27 + 2 * e < X.2.2.2.1 + 75 ∧ 28 + 2 * e < X.2.2.2.1 + 75
  omega
theorem row_getI {I : Nat → Nat → Int32} {X : MX} {e j nx : Nat} {al : List (Option Value)} {st : List Value} {call : MCall} (he : e < 8) : mjgetI [6] j nx call (al, .ref (27 + 2 * e) :: st, mjH I X) = some (.inl (nx, (al, .int (I (27 + 2 * e) j) :: st, mjH I X))) := by
  unfold mjgetI
  show (bif Nat.blt (27 + 2 * e) (mjN (mjH I X)) && [6].contains (mjT (mjH I X) (27 + 2 * e)).1 then (some (.inl (nx, (al, .int (I (27 + 2 * e) j) :: st, mjH I X))) : Option ((Nat × MF) ⊕ (MO × MH))) else none) = _
  rw [(row_T he).1, Nat.blt_eq.mpr (row_N he).1]
  rfl
theorem row_putI {I : Nat → Nat → Int32} {X : MX} {e j nx : Nat} {v : Int32} {al : List (Option Value)} {st : List Value} {call : MCall} (he : e < 8) : mjputI [6] j nx call (al, .int v :: .ref (27 + 2 * e) :: st, mjH I X) = some (.inl (nx, (al, st, mjH (mjU I (27 + 2 * e) j v) X))) := by
  unfold mjputI
  show (bif Nat.blt (27 + 2 * e) (mjN (mjH I X)) && [6].contains (mjT (mjH I X) (27 + 2 * e)).1 then (some (.inl (nx, (al, st, mjH (mjU I (27 + 2 * e) j v) X))) : Option ((Nat × MF) ⊕ (MO × MH))) else none) = _
  rw [(row_T he).1, Nat.blt_eq.mpr (row_N he).1]
  rfl
theorem row_getP {I : Nat → Nat → Int32} {X : MX} {e nx : Nat} {al : List (Option Value)} {st : List Value} {call : MCall} (he : e < 8) : mjgetP [6] 0 nx call (al, .ref (27 + 2 * e) :: st, mjH I X) = some (.inl (nx, (al, .ref (28 + 2 * e) :: st, mjH I X))) := by
  unfold mjgetP
  show (bif Nat.blt (27 + 2 * e) (mjN (mjH I X)) && [6].contains (mjT (mjH I X) (27 + 2 * e)).1 then (some (.inl (nx, (al, va_rf (mjP (mjH I X) (27 + 2 * e) 0) :: st, mjH I X))) : Option ((Nat × MF) ⊕ (MO × MH))) else none) = _
  rw [(row_T he).1, Nat.blt_eq.mpr (row_N he).1, (row_T he).2.2.1]
  rfl
theorem row_aald {I : Nat → Nat → Int32} {X : MX} {e nx : Nat} {al : List (Option Value)} {st : List Value} {call : MCall} (he : e < 8) : mjaald 15 nx call (al, .int (nI e) :: .ref 26 :: st, mjH I X) = some (.inl (nx, (al, .ref (27 + 2 * e) :: st, mjH I X))) := aald_at (n := 8) he (by omega) rfl rfl (row_T he).2.2.2
theorem row_arr {I : Nat → Nat → Int32} {X : MX} {e : Nat} (he : e < 8) : (Nat.blt (28 + 2 * e) (mjN (mjH I X)) && (mjT (mjH I X) (28 + 2 * e)).1 == 13) = true ∧ (mjT (mjH I X) (28 + 2 * e)).2 = 100 := by
  rw [(row_T he).2.1, Nat.blt_eq.mpr (row_N he).2]
  exact ⟨rfl, rfl⟩
theorem row_lk {I : Nat → Nat → Int32} {X : MX} {e j : Nat} (he : e < 8) : mjlk (mjT (mjH I X) (27 + 2 * e)).1 [(6, j)] = some j := by
  rw [(row_T he).1]
  rfl
def xHasP (I : Nat → Nat → Int32) (e : Nat) (v : Int32) : Int32 := if v < 0 then 0 else (if 100 ≤ v then 0 else (if (I (27 + 2 * e) 2) ≤ v then 0 else 1))
theorem z_xHasP (I : Nat → Nat → Int32) (e : Nat) (v : Int32) : xHasP I e v = 0 ∨ xHasP I e v = 1 := by
  unfold xHasP
  repeat' split
  all_goals first | exact Or.inl rfl | exact Or.inr rfl | exact z_mIn _ _ _ | exact z_mMin _ | exact z_mClock _ | exact z_xMin _ | exact z_xShelf _ | exact z_xOffer _ _ _ | exact z_xDigit _ | exact z_xC4 | exact z_xC0 | exact z_mIsW _ _ | exact z_mIsL _ _ | exact z_mIsS _ _ _ _ _
theorem c_xHasP (d : Nat) {I : Nat → Nat → Int32} {X : MX} (e : Nat) (v : Int32) (he : e < 8) : mjEv d nyX6_hasPlace [.ref (27 + 2 * e), .int v] (mjH I X) (.inl (some (.int (xHasP I e v)))) (mjH I X) := by
  refine mjEv.of ?_
  show mjGo d nyX6_hasPlace 0 ([some (.ref (27 + 2 * e)), some (.int v)], [], mjH I X) _
  refine mjGo.run 2 (pc' := (bif decide (v < 0) then 22 else 4)) (F' := ([some (.ref (27 + 2 * e)), some (.int v)], [], mjH I X)) (fun _ => rfl) ?_
  refine mjGo.br (fun q1 => ?_) (fun q1 => ?_)
  · show mjGo _ _ 22 _ _
    have e9 : xHasP I e v = 0 := by unfold xHasP; rw [if_pos q1]
    rw [e9]
    exact mjGo.ret 2 (fun _ => rfl) rfl
  · show mjGo _ _ 4 _ _
    refine mjGo.run 3 (pc' := (bif decide (100 ≤ v) then 22 else 10)) (F' := ([some (.ref (27 + 2 * e)), some (.int v)], [], mjH I X)) (fun _ => rfl) ?_
    refine mjGo.br (fun q2 => ?_) (fun q2 => ?_)
    · show mjGo _ _ 22 _ _
      have e9 : xHasP I e v = 0 := by unfold xHasP; rw [if_neg q1, if_pos q2]
      rw [e9]
      exact mjGo.ret 2 (fun _ => rfl) rfl
    · show mjGo _ _ 10 _ _
      refine mjGo.run 2 (pc' := 12) (F' := ([some (.ref (27 + 2 * e)), some (.int v)], [.ref (27 + 2 * e), .int v], mjH I X)) (fun _ => rfl) ?_
      refine mjGo.op (pc' := 15) (F' := ([some (.ref (27 + 2 * e)), some (.int v)], [.int (I (27 + 2 * e) 2), .int v], mjH I X)) (o := mjgetI [6] 2 15) rfl (fun _ => row_getI he) ?_
      refine mjGo.run 1 (pc' := (bif decide ((I (27 + 2 * e) 2) ≤ v) then 22 else 18)) (F' := ([some (.ref (27 + 2 * e)), some (.int v)], [], mjH I X)) (fun _ => rfl) ?_
      refine mjGo.br (fun q3 => ?_) (fun q3 => ?_)
      · show mjGo _ _ 22 _ _
        have e9 : xHasP I e v = 0 := by unfold xHasP; rw [if_neg q1, if_neg q2, if_pos q3]
        rw [e9]
        exact mjGo.ret 2 (fun _ => rfl) rfl
      · show mjGo _ _ 18 _ _
        have e9 : xHasP I e v = 1 := by unfold xHasP; rw [if_neg q1, if_neg q2, if_neg q3]
        rw [e9]
        exact mjGo.ret 3 (fun _ => rfl) rfl
theorem xHasP_n {I : Nat → Nat → Int32} {e : Nat} {v : Int32} (h : xHasP I e v ≠ 0) : ∃ j, j < 100 ∧ v = nI j ∧ ¬ I (27 + 2 * e) 2 ≤ v := by
  unfold xHasP at h
  split at h
  · exact absurd rfl h
  · rename_i h1
    split at h
    · exact absurd rfl h
    · rename_i h2
      split at h
      · exact absurd rfl h
      · rename_i h3
        obtain ⟨j, hj, e1⟩ := nI_of h1
        refine ⟨j, ?_, e1, h3⟩
        rw [e1, show (100 : Int32) = nI 100 from rfl, nI_leI (by omega) hj] at h2
        omega
theorem mjin_hasP {I : Nat → Nat → Int32} {e : Nat} {v : Int32} (h : xHasP I e v ≠ 0) : mjin v 100 = true := by
  obtain ⟨j, hj, rfl, _⟩ := xHasP_n h
  exact mjin_n hj (by omega)
def xVal (I : Nat → Nat → Int32) (e : Nat) (v : Int32) : Int32 := if (xHasP I e v) = 0 then 0 else (I (28 + 2 * e) (v).toNatClampNeg)
theorem c_xVal (d : Nat) {I : Nat → Nat → Int32} {X : MX} (e : Nat) (v : Int32) (he : e < 8) : mjEv (d + 1) nyX6_valueAt [.ref (27 + 2 * e), .int v] (mjH I X) (.inl (some (.int (xVal I e v)))) (mjH I X) := by
  refine mjEv.of ?_
  show mjGo (d + 1) nyX6_valueAt 0 ([some (.ref (27 + 2 * e)), some (.int v)], [], mjH I X) _
  refine mjGo.run 2 (pc' := 2) (F' := ([some (.ref (27 + 2 * e)), some (.int v)], [.int v, .ref (27 + 2 * e)], mjH I X)) (fun _ => rfl) ?_
  refine mjGo.callL (o := some (.int (xHasP I e v))) (h' := mjH I X) (nx := 5) rfl rfl rfl ((row_N he).1) ⟨_, row_lk he, c_xHasP d e v he⟩ ?_
  show mjGo _ _ 5 ([some (.ref (27 + 2 * e)), some (.int v)], [.int (xHasP I e v)], mjH I X) _
  refine mjGo.run 1 (pc' := (bif decide ((xHasP I e v) = 0) then 17 else 8)) (F' := ([some (.ref (27 + 2 * e)), some (.int v)], [], mjH I X)) (fun _ => rfl) ?_
  refine mjGo.br (fun q1 => ?_) (fun q1 => ?_)
  · show mjGo _ _ 17 _ _
    have e9 : xVal I e v = 0 := by unfold xVal; rw [if_pos q1]
    rw [e9]
    exact mjGo.ret 2 (fun _ => rfl) rfl
  · show mjGo _ _ 8 _ _
    refine mjGo.run 1 (pc' := 9) (F' := ([some (.ref (27 + 2 * e)), some (.int v)], [.ref (27 + 2 * e)], mjH I X)) (fun _ => rfl) ?_
    refine mjGo.op (pc' := 12) (F' := ([some (.ref (27 + 2 * e)), some (.int v)], [.ref (28 + 2 * e)], mjH I X)) (o := mjgetP [6] 0 12) rfl (fun _ => row_getP he) ?_
    refine mjGo.run 1 (pc' := 13) (F' := ([some (.ref (27 + 2 * e)), some (.int v)], [.int v, .ref (28 + 2 * e)], mjH I X)) (fun _ => rfl) ?_
    refine mjGo.op (pc' := 14) (F' := ([some (.ref (27 + 2 * e)), some (.int v)], [.int (I (28 + 2 * e) (v).toNatClampNeg)], mjH I X)) (o := mjiald 14) rfl (fun _ => mjald_i (n := 100) (mjin_hasP q1) ((row_arr he).1) ((row_arr he).2)) ?_
    have e9 : xVal I e v = (I (28 + 2 * e) (v).toNatClampNeg) := by unfold xVal; rw [if_neg q1]
    rw [e9]
    exact mjGo.ret 2 (fun _ => rfl) rfl
def xLeast (I : Nat → Nat → Int32) (e : Nat) : Int32 := if (I (27 + 2 * e) 1) ≠ 0 then (if (I (27 + 2 * e) 1) ≠ 1 then (-2147483648) else (-32768)) else (-128)
theorem c_xLeast (d : Nat) {I : Nat → Nat → Int32} {X : MX} (e : Nat) (he : e < 8) : mjEv d nyX6_leastOfSort [.ref (27 + 2 * e)] (mjH I X) (.inl (some (.int (xLeast I e)))) (mjH I X) := by
  refine mjEv.of ?_
  show mjGo d nyX6_leastOfSort 0 ([some (.ref (27 + 2 * e))], [], mjH I X) _
  refine mjGo.run 1 (pc' := 1) (F' := ([some (.ref (27 + 2 * e))], [.ref (27 + 2 * e)], mjH I X)) (fun _ => rfl) ?_
  refine mjGo.op (pc' := 4) (F' := ([some (.ref (27 + 2 * e))], [.int (I (27 + 2 * e) 1)], mjH I X)) (o := mjgetI [6] 1 4) rfl (fun _ => row_getI he) ?_
  refine mjGo.run 1 (pc' := (bif decide ((I (27 + 2 * e) 1) ≠ 0) then 12 else 7)) (F' := ([some (.ref (27 + 2 * e))], [], mjH I X)) (fun _ => rfl) ?_
  refine mjGo.br (fun q1 => ?_) (fun q1 => ?_)
  · show mjGo _ _ 12 _ _
    refine mjGo.run 1 (pc' := 13) (F' := ([some (.ref (27 + 2 * e))], [.ref (27 + 2 * e)], mjH I X)) (fun _ => rfl) ?_
    refine mjGo.op (pc' := 16) (F' := ([some (.ref (27 + 2 * e))], [.int (I (27 + 2 * e) 1)], mjH I X)) (o := mjgetI [6] 1 16) rfl (fun _ => row_getI he) ?_
    refine mjGo.run 2 (pc' := (bif decide ((I (27 + 2 * e) 1) ≠ 1) then 26 else 20)) (F' := ([some (.ref (27 + 2 * e))], [], mjH I X)) (fun _ => rfl) ?_
    refine mjGo.br (fun q2 => ?_) (fun q2 => ?_)
    · show mjGo _ _ 26 _ _
      have e9 : xLeast I e = (-2147483648) := by unfold xLeast; rw [if_pos q1, if_pos q2]
      rw [e9]
      exact mjGo.ret 2 (fun _ => rfl) rfl
    · show mjGo _ _ 20 _ _
      have e9 : xLeast I e = (-32768) := by unfold xLeast; rw [if_pos q1, if_neg q2]
      rw [e9]
      exact mjGo.ret 3 (fun _ => rfl) rfl
  · show mjGo _ _ 7 _ _
    have e9 : xLeast I e = (-128) := by unfold xLeast; rw [if_neg q1]
    rw [e9]
    exact mjGo.ret 3 (fun _ => rfl) rfl
def xHasPs (I : Nat → Nat → Int32) (e : Nat) (v n : Int32) : Int32 := if v < 0 then 0 else (if n < 0 then 0 else (if (I (27 + 2 * e) 2) < n then 0 else (if ((I (27 + 2 * e) 2) - n) < v then 0 else 1)))
theorem z_xHasPs (I : Nat → Nat → Int32) (e : Nat) (v n : Int32) : xHasPs I e v n = 0 ∨ xHasPs I e v n = 1 := by
  unfold xHasPs
  repeat' split
  all_goals first | exact Or.inl rfl | exact Or.inr rfl | exact z_mIn _ _ _ | exact z_mMin _ | exact z_mClock _ | exact z_xMin _ | exact z_xShelf _ | exact z_xOffer _ _ _ | exact z_xDigit _ | exact z_xC4 | exact z_xC0 | exact z_mIsW _ _ | exact z_mIsL _ _ | exact z_mIsS _ _ _ _ _ | exact z_xHasP _ _ _
theorem c_xHasPs (d : Nat) {I : Nat → Nat → Int32} {X : MX} (e : Nat) (v n : Int32) (he : e < 8) : mjEv d nyX6_hasPlaces [.ref (27 + 2 * e), .int v, .int n] (mjH I X) (.inl (some (.int (xHasPs I e v n)))) (mjH I X) := by
  refine mjEv.of ?_
  show mjGo d nyX6_hasPlaces 0 ([some (.ref (27 + 2 * e)), some (.int v), some (.int n)], [], mjH I X) _
  refine mjGo.run 2 (pc' := (bif decide (v < 0) then 30 else 4)) (F' := ([some (.ref (27 + 2 * e)), some (.int v), some (.int n)], [], mjH I X)) (fun _ => rfl) ?_
  refine mjGo.br (fun q1 => ?_) (fun q1 => ?_)
  · show mjGo _ _ 30 _ _
    have e9 : xHasPs I e v n = 0 := by unfold xHasPs; rw [if_pos q1]
    rw [e9]
    exact mjGo.ret 2 (fun _ => rfl) rfl
  · show mjGo _ _ 4 _ _
    refine mjGo.run 2 (pc' := (bif decide (n < 0) then 30 else 8)) (F' := ([some (.ref (27 + 2 * e)), some (.int v), some (.int n)], [], mjH I X)) (fun _ => rfl) ?_
    refine mjGo.br (fun q2 => ?_) (fun q2 => ?_)
    · show mjGo _ _ 30 _ _
      have e9 : xHasPs I e v n = 0 := by unfold xHasPs; rw [if_neg q1, if_pos q2]
      rw [e9]
      exact mjGo.ret 2 (fun _ => rfl) rfl
    · show mjGo _ _ 8 _ _
      refine mjGo.run 2 (pc' := 10) (F' := ([some (.ref (27 + 2 * e)), some (.int v), some (.int n)], [.ref (27 + 2 * e), .int n], mjH I X)) (fun _ => rfl) ?_
      refine mjGo.op (pc' := 13) (F' := ([some (.ref (27 + 2 * e)), some (.int v), some (.int n)], [.int (I (27 + 2 * e) 2), .int n], mjH I X)) (o := mjgetI [6] 2 13) rfl (fun _ => row_getI he) ?_
      refine mjGo.run 1 (pc' := (bif decide ((I (27 + 2 * e) 2) < n) then 30 else 16)) (F' := ([some (.ref (27 + 2 * e)), some (.int v), some (.int n)], [], mjH I X)) (fun _ => rfl) ?_
      refine mjGo.br (fun q3 => ?_) (fun q3 => ?_)
      · show mjGo _ _ 30 _ _
        have e9 : xHasPs I e v n = 0 := by unfold xHasPs; rw [if_neg q1, if_neg q2, if_pos q3]
        rw [e9]
        exact mjGo.ret 2 (fun _ => rfl) rfl
      · show mjGo _ _ 16 _ _
        refine mjGo.run 2 (pc' := 18) (F' := ([some (.ref (27 + 2 * e)), some (.int v), some (.int n)], [.ref (27 + 2 * e), .int v], mjH I X)) (fun _ => rfl) ?_
        refine mjGo.op (pc' := 21) (F' := ([some (.ref (27 + 2 * e)), some (.int v), some (.int n)], [.int (I (27 + 2 * e) 2), .int v], mjH I X)) (o := mjgetI [6] 2 21) rfl (fun _ => row_getI he) ?_
        refine mjGo.run 3 (pc' := (bif decide (((I (27 + 2 * e) 2) - n) < v) then 30 else 26)) (F' := ([some (.ref (27 + 2 * e)), some (.int v), some (.int n)], [], mjH I X)) (fun _ => rfl) ?_
        refine mjGo.br (fun q4 => ?_) (fun q4 => ?_)
        · show mjGo _ _ 30 _ _
          have e9 : xHasPs I e v n = 0 := by unfold xHasPs; rw [if_neg q1, if_neg q2, if_neg q3, if_pos q4]
          rw [e9]
          exact mjGo.ret 2 (fun _ => rfl) rfl
        · show mjGo _ _ 26 _ _
          have e9 : xHasPs I e v n = 1 := by unfold xHasPs; rw [if_neg q1, if_neg q2, if_neg q3, if_neg q4]
          rw [e9]
          exact mjGo.ret 3 (fun _ => rfl) rfl
theorem c_hr1 (d : Nat) {e : Nat} {I : Nat → Nat → Int32} {X : MX} (he : e < 8) (hh : I 24 e = 2) : mjEv (d + 1) nyX11_holdsRow [.ref 0, .int (nI e)] (mjH I X) (.inl (some (.int 1))) (mjH I X) := by
  refine mjEv.of ?_
  show mjGo (d + 1) nyX11_holdsRow 0 ([some (.ref 0), some (.int (nI e))], [], mjH I X) _
  refine mjGo.run 1 (pc' := 1) (F' := ([some (.ref 0), some (.int (nI e))], [.int (nI e)], mjH I X)) (fun _ => rfl) ?_
  refine mjGo.call (n := 1) (j := 77) (nx := 4) (o := some (.int 1)) (h' := mjH I X) (fun _ => rfl) ((by have q9 := c_xShelf (d + 0) (nI e) (mjH I X); rw [xShelf_1 he] at q9; exact q9)) ?_
  show mjGo _ _ 4 ([some (.ref 0), some (.int (nI e))], [.int 1], mjH I X) _
  refine mjGo.run 4 (pc' := 12) (F' := ([some (.ref 0), some (.int (nI e))], [.int (nI e), .ref 24], mjH I X)) (fun _ => rfl) ?_
  refine mjGo.op (pc' := 13) (F' := ([some (.ref 0), some (.int (nI e))], [.int (I 24 e)], mjH I X)) (o := mjiald 13) rfl (fun _ => mjald_n (n := 8) (by omega) (by decide) (rfl) (rfl)) ?_
  refine mjGo.run 0 (pc' := 13) (F' := ([some (.ref 0), some (.int (nI e))], [.int (I 24 e)], mjH I X)) (fun _ => rfl) ?_
  rw [hh]
  refine mjGo.run 5 (pc' := 22) (F' := ([some (.ref 0), some (.int (nI e))], [.int (nI e), .ref 26], mjH I X)) (fun _ => rfl) ?_
  refine mjGo.op (pc' := 23) (F' := ([some (.ref 0), some (.int (nI e))], [.ref (27 + 2 * e)], mjH I X)) (o := mjaald 15 23) rfl (fun _ => row_aald he) ?_
  exact mjGo.ret 4 (fun _ => rfl) rfl
theorem c_hr0 (d : Nat) {e : Nat} {I : Nat → Nat → Int32} {X : MX} (he : e < 8) (hh : ¬ I 24 e = 2) : mjEv (d + 1) nyX11_holdsRow [.ref 0, .int (nI e)] (mjH I X) (.inl (some (.int 0))) (mjH I X) := by
  refine mjEv.of ?_
  show mjGo (d + 1) nyX11_holdsRow 0 ([some (.ref 0), some (.int (nI e))], [], mjH I X) _
  refine mjGo.run 1 (pc' := 1) (F' := ([some (.ref 0), some (.int (nI e))], [.int (nI e)], mjH I X)) (fun _ => rfl) ?_
  refine mjGo.call (n := 1) (j := 77) (nx := 4) (o := some (.int 1)) (h' := mjH I X) (fun _ => rfl) ((by have q9 := c_xShelf (d + 0) (nI e) (mjH I X); rw [xShelf_1 he] at q9; exact q9)) ?_
  show mjGo _ _ 4 ([some (.ref 0), some (.int (nI e))], [.int 1], mjH I X) _
  refine mjGo.run 4 (pc' := 12) (F' := ([some (.ref 0), some (.int (nI e))], [.int (nI e), .ref 24], mjH I X)) (fun _ => rfl) ?_
  refine mjGo.op (pc' := 13) (F' := ([some (.ref 0), some (.int (nI e))], [.int (I 24 e)], mjH I X)) (o := mjiald 13) rfl (fun _ => mjald_n (n := 8) (by omega) (by decide) (rfl) (rfl)) ?_
  refine mjGo.run 2 (pc' := (bif decide ((I 24 e) ≠ 2) then 30 else 17)) (F' := ([some (.ref 0), some (.int (nI e))], [], mjH I X)) (fun _ => rfl) ?_
  refine mjGo.br (fun q1 => ?_) (fun q1 => ?_)
  · show mjGo _ _ 30 _ _
    exact mjGo.ret 2 (fun _ => rfl) rfl
  · show mjGo _ _ 17 _ _
    first | exact absurd q1 hh | exact absurd hh q1 | (exfalso; simp_all; done)
theorem c_rrA (d : Nat) {q s9 : Int32} {I : Nat → Nat → Int32} {X : MX} (hs : xShelf q = 0) : mjEv (d + 2) nyX11_refusalOfRow [.ref 0, .int q, .int s9] (mjH I X) (.inl (some (.int (-1)))) (mjH I X) := by
  refine mjEv.of ?_
  show mjGo (d + 2) nyX11_refusalOfRow 0 ([some (.ref 0), some (.int q), some (.int s9)], [], mjH I X) _
  refine mjGo.run 1 (pc' := 1) (F' := ([some (.ref 0), some (.int q), some (.int s9)], [.int q], mjH I X)) (fun _ => rfl) ?_
  refine mjGo.call (n := 1) (j := 77) (nx := 4) (o := some (.int 0)) (h' := mjH I X) (fun _ => rfl) ((by have q9 := c_xShelf (d + 1) q (mjH I X); rw [hs] at q9; exact q9)) ?_
  show mjGo _ _ 4 ([some (.ref 0), some (.int q), some (.int s9)], [.int 0], mjH I X) _
  exact mjGo.ret 3 (fun _ => rfl) rfl
theorem c_rrB (d : Nat) {e : Nat} {s9 : Int32} {I : Nat → Nat → Int32} {X : MX} (he : e < 8) (hh : I 24 e = 0) : mjEv (d + 2) nyX11_refusalOfRow [.ref 0, .int (nI e), .int s9] (mjH I X) (.inl (some (.int (-11)))) (mjH I X) := by
  refine mjEv.of ?_
  show mjGo (d + 2) nyX11_refusalOfRow 0 ([some (.ref 0), some (.int (nI e)), some (.int s9)], [], mjH I X) _
  refine mjGo.run 1 (pc' := 1) (F' := ([some (.ref 0), some (.int (nI e)), some (.int s9)], [.int (nI e)], mjH I X)) (fun _ => rfl) ?_
  refine mjGo.call (n := 1) (j := 77) (nx := 4) (o := some (.int 1)) (h' := mjH I X) (fun _ => rfl) ((by have q9 := c_xShelf (d + 1) (nI e) (mjH I X); rw [xShelf_1 he] at q9; exact q9)) ?_
  show mjGo _ _ 4 ([some (.ref 0), some (.int (nI e)), some (.int s9)], [.int 1], mjH I X) _
  refine mjGo.run 4 (pc' := 14) (F' := ([some (.ref 0), some (.int (nI e)), some (.int s9)], [.int (nI e), .ref 24], mjH I X)) (fun _ => rfl) ?_
  refine mjGo.op (pc' := 15) (F' := ([some (.ref 0), some (.int (nI e)), some (.int s9)], [.int (I 24 e)], mjH I X)) (o := mjiald 15) rfl (fun _ => mjald_n (n := 8) (by omega) (by decide) (rfl) (rfl)) ?_
  refine mjGo.run 0 (pc' := 15) (F' := ([some (.ref 0), some (.int (nI e)), some (.int s9)], [.int (I 24 e)], mjH I X)) (fun _ => rfl) ?_
  rw [hh]
  exact mjGo.ret 3 (fun _ => rfl) rfl
theorem c_rrC (d : Nat) {e : Nat} {s9 : Int32} {I : Nat → Nat → Int32} {X : MX} (he : e < 8) (hh : I 24 e = 1) : mjEv (d + 2) nyX11_refusalOfRow [.ref 0, .int (nI e), .int s9] (mjH I X) (.inl (some (.int (-12)))) (mjH I X) := by
  refine mjEv.of ?_
  show mjGo (d + 2) nyX11_refusalOfRow 0 ([some (.ref 0), some (.int (nI e)), some (.int s9)], [], mjH I X) _
  refine mjGo.run 1 (pc' := 1) (F' := ([some (.ref 0), some (.int (nI e)), some (.int s9)], [.int (nI e)], mjH I X)) (fun _ => rfl) ?_
  refine mjGo.call (n := 1) (j := 77) (nx := 4) (o := some (.int 1)) (h' := mjH I X) (fun _ => rfl) ((by have q9 := c_xShelf (d + 1) (nI e) (mjH I X); rw [xShelf_1 he] at q9; exact q9)) ?_
  show mjGo _ _ 4 ([some (.ref 0), some (.int (nI e)), some (.int s9)], [.int 1], mjH I X) _
  refine mjGo.run 4 (pc' := 14) (F' := ([some (.ref 0), some (.int (nI e)), some (.int s9)], [.int (nI e), .ref 24], mjH I X)) (fun _ => rfl) ?_
  refine mjGo.op (pc' := 15) (F' := ([some (.ref 0), some (.int (nI e)), some (.int s9)], [.int (I 24 e)], mjH I X)) (o := mjiald 15) rfl (fun _ => mjald_n (n := 8) (by omega) (by decide) (rfl) (rfl)) ?_
  refine mjGo.run 0 (pc' := 15) (F' := ([some (.ref 0), some (.int (nI e)), some (.int s9)], [.int (I 24 e)], mjH I X)) (fun _ => rfl) ?_
  rw [hh]
  refine mjGo.run 3 (pc' := 23) (F' := ([some (.ref 0), some (.int (nI e)), some (.int s9)], [.int (nI e), .ref 0], mjH I X)) (fun _ => rfl) ?_
  refine mjGo.call (n := 2) (j := 197) (nx := 26) (o := some (.int 0)) (h' := mjH I X) (fun _ => rfl) (c_hr0 _ he (by rw [hh]; decide)) ?_
  show mjGo _ _ 26 ([some (.ref 0), some (.int (nI e)), some (.int s9)], [.int 0], mjH I X) _
  exact mjGo.ret 3 (fun _ => rfl) rfl
theorem c_rrD (d : Nat) {e : Nat} {I : Nat → Nat → Int32} {X : MX} (he : e < 8) (hh : I 24 e = 2) : mjEv (d + 2) nyX11_refusalOfRow [.ref 0, .int (nI e), .int (-1)] (mjH I X) (.inl (some (.int 0))) (mjH I X) := by
  refine mjEv.of ?_
  show mjGo (d + 2) nyX11_refusalOfRow 0 ([some (.ref 0), some (.int (nI e)), some (.int (-1))], [], mjH I X) _
  refine mjGo.run 1 (pc' := 1) (F' := ([some (.ref 0), some (.int (nI e)), some (.int (-1))], [.int (nI e)], mjH I X)) (fun _ => rfl) ?_
  refine mjGo.call (n := 1) (j := 77) (nx := 4) (o := some (.int 1)) (h' := mjH I X) (fun _ => rfl) ((by have q9 := c_xShelf (d + 1) (nI e) (mjH I X); rw [xShelf_1 he] at q9; exact q9)) ?_
  show mjGo _ _ 4 ([some (.ref 0), some (.int (nI e)), some (.int (-1))], [.int 1], mjH I X) _
  refine mjGo.run 4 (pc' := 14) (F' := ([some (.ref 0), some (.int (nI e)), some (.int (-1))], [.int (nI e), .ref 24], mjH I X)) (fun _ => rfl) ?_
  refine mjGo.op (pc' := 15) (F' := ([some (.ref 0), some (.int (nI e)), some (.int (-1))], [.int (I 24 e)], mjH I X)) (o := mjiald 15) rfl (fun _ => mjald_n (n := 8) (by omega) (by decide) (rfl) (rfl)) ?_
  refine mjGo.run 0 (pc' := 15) (F' := ([some (.ref 0), some (.int (nI e)), some (.int (-1))], [.int (I 24 e)], mjH I X)) (fun _ => rfl) ?_
  rw [hh]
  refine mjGo.run 3 (pc' := 23) (F' := ([some (.ref 0), some (.int (nI e)), some (.int (-1))], [.int (nI e), .ref 0], mjH I X)) (fun _ => rfl) ?_
  refine mjGo.call (n := 2) (j := 197) (nx := 26) (o := some (.int 1)) (h' := mjH I X) (fun _ => rfl) (c_hr1 _ he hh) ?_
  show mjGo _ _ 26 ([some (.ref 0), some (.int (nI e)), some (.int (-1))], [.int 1], mjH I X) _
  exact mjGo.ret 7 (fun _ => rfl) rfl
theorem c_rrE (d : Nat) {e : Nat} {s9 : Int32} {I : Nat → Nat → Int32} {X : MX} (he : e < 8) (hh : I 24 e = 2) (h1 : s9 ≠ (-1)) (hq : I (27 + 2 * e) 1 = s9) : mjEv (d + 2) nyX11_refusalOfRow [.ref 0, .int (nI e), .int s9] (mjH I X) (.inl (some (.int 0))) (mjH I X) := by
  refine mjEv.of ?_
  show mjGo (d + 2) nyX11_refusalOfRow 0 ([some (.ref 0), some (.int (nI e)), some (.int s9)], [], mjH I X) _
  refine mjGo.run 1 (pc' := 1) (F' := ([some (.ref 0), some (.int (nI e)), some (.int s9)], [.int (nI e)], mjH I X)) (fun _ => rfl) ?_
  refine mjGo.call (n := 1) (j := 77) (nx := 4) (o := some (.int 1)) (h' := mjH I X) (fun _ => rfl) ((by have q9 := c_xShelf (d + 1) (nI e) (mjH I X); rw [xShelf_1 he] at q9; exact q9)) ?_
  show mjGo _ _ 4 ([some (.ref 0), some (.int (nI e)), some (.int s9)], [.int 1], mjH I X) _
  refine mjGo.run 4 (pc' := 14) (F' := ([some (.ref 0), some (.int (nI e)), some (.int s9)], [.int (nI e), .ref 24], mjH I X)) (fun _ => rfl) ?_
  refine mjGo.op (pc' := 15) (F' := ([some (.ref 0), some (.int (nI e)), some (.int s9)], [.int (I 24 e)], mjH I X)) (o := mjiald 15) rfl (fun _ => mjald_n (n := 8) (by omega) (by decide) (rfl) (rfl)) ?_
  refine mjGo.run 0 (pc' := 15) (F' := ([some (.ref 0), some (.int (nI e)), some (.int s9)], [.int (I 24 e)], mjH I X)) (fun _ => rfl) ?_
  rw [hh]
  refine mjGo.run 3 (pc' := 23) (F' := ([some (.ref 0), some (.int (nI e)), some (.int s9)], [.int (nI e), .ref 0], mjH I X)) (fun _ => rfl) ?_
  refine mjGo.call (n := 2) (j := 197) (nx := 26) (o := some (.int 1)) (h' := mjH I X) (fun _ => rfl) (c_hr1 _ he hh) ?_
  show mjGo _ _ 26 ([some (.ref 0), some (.int (nI e)), some (.int s9)], [.int 1], mjH I X) _
  refine mjGo.run 4 (pc' := (bif decide (s9 = (-1)) then 50 else 37)) (F' := ([some (.ref 0), some (.int (nI e)), some (.int s9)], [], mjH I X)) (fun _ => rfl) ?_
  refine mjGo.br (fun q1 => ?_) (fun q1 => ?_)
  · show mjGo _ _ 50 _ _
    first | exact absurd q1 h1 | exact absurd h1 q1 | (exfalso; simp_all; done)
  · show mjGo _ _ 37 _ _
    refine mjGo.run 3 (pc' := 42) (F' := ([some (.ref 0), some (.int (nI e)), some (.int s9)], [.int (nI e), .ref 26], mjH I X)) (fun _ => rfl) ?_
    refine mjGo.op (pc' := 43) (F' := ([some (.ref 0), some (.int (nI e)), some (.int s9)], [.ref (27 + 2 * e)], mjH I X)) (o := mjaald 15 43) rfl (fun _ => row_aald he) ?_
    refine mjGo.op (pc' := 46) (F' := ([some (.ref 0), some (.int (nI e)), some (.int s9)], [.int (I (27 + 2 * e) 1)], mjH I X)) (o := mjgetI [6] 1 46) rfl (fun _ => row_getI he) ?_
    refine mjGo.run 2 (pc' := (bif decide ((I (27 + 2 * e) 1) ≠ s9) then 54 else 50)) (F' := ([some (.ref 0), some (.int (nI e)), some (.int s9)], [], mjH I X)) (fun _ => rfl) ?_
    refine mjGo.br (fun q2 => ?_) (fun q2 => ?_)
    · show mjGo _ _ 54 _ _
      first | exact absurd q2 hq | exact absurd hq q2 | (exfalso; simp_all; done)
    · show mjGo _ _ 50 _ _
      exact mjGo.ret 3 (fun _ => rfl) rfl
theorem c_rrF (d : Nat) {e : Nat} {s9 : Int32} {I : Nat → Nat → Int32} {X : MX} (he : e < 8) (hh : I 24 e = 2) (h1 : s9 ≠ (-1)) (hq : ¬ I (27 + 2 * e) 1 = s9) : mjEv (d + 2) nyX11_refusalOfRow [.ref 0, .int (nI e), .int s9] (mjH I X) (.inl (some (.int (-12)))) (mjH I X) := by
  refine mjEv.of ?_
  show mjGo (d + 2) nyX11_refusalOfRow 0 ([some (.ref 0), some (.int (nI e)), some (.int s9)], [], mjH I X) _
  refine mjGo.run 1 (pc' := 1) (F' := ([some (.ref 0), some (.int (nI e)), some (.int s9)], [.int (nI e)], mjH I X)) (fun _ => rfl) ?_
  refine mjGo.call (n := 1) (j := 77) (nx := 4) (o := some (.int 1)) (h' := mjH I X) (fun _ => rfl) ((by have q9 := c_xShelf (d + 1) (nI e) (mjH I X); rw [xShelf_1 he] at q9; exact q9)) ?_
  show mjGo _ _ 4 ([some (.ref 0), some (.int (nI e)), some (.int s9)], [.int 1], mjH I X) _
  refine mjGo.run 4 (pc' := 14) (F' := ([some (.ref 0), some (.int (nI e)), some (.int s9)], [.int (nI e), .ref 24], mjH I X)) (fun _ => rfl) ?_
  refine mjGo.op (pc' := 15) (F' := ([some (.ref 0), some (.int (nI e)), some (.int s9)], [.int (I 24 e)], mjH I X)) (o := mjiald 15) rfl (fun _ => mjald_n (n := 8) (by omega) (by decide) (rfl) (rfl)) ?_
  refine mjGo.run 0 (pc' := 15) (F' := ([some (.ref 0), some (.int (nI e)), some (.int s9)], [.int (I 24 e)], mjH I X)) (fun _ => rfl) ?_
  rw [hh]
  refine mjGo.run 3 (pc' := 23) (F' := ([some (.ref 0), some (.int (nI e)), some (.int s9)], [.int (nI e), .ref 0], mjH I X)) (fun _ => rfl) ?_
  refine mjGo.call (n := 2) (j := 197) (nx := 26) (o := some (.int 1)) (h' := mjH I X) (fun _ => rfl) (c_hr1 _ he hh) ?_
  show mjGo _ _ 26 ([some (.ref 0), some (.int (nI e)), some (.int s9)], [.int 1], mjH I X) _
  refine mjGo.run 4 (pc' := (bif decide (s9 = (-1)) then 50 else 37)) (F' := ([some (.ref 0), some (.int (nI e)), some (.int s9)], [], mjH I X)) (fun _ => rfl) ?_
  refine mjGo.br (fun q1 => ?_) (fun q1 => ?_)
  · show mjGo _ _ 50 _ _
    first | exact absurd q1 h1 | exact absurd h1 q1 | (exfalso; simp_all; done)
  · show mjGo _ _ 37 _ _
    refine mjGo.run 3 (pc' := 42) (F' := ([some (.ref 0), some (.int (nI e)), some (.int s9)], [.int (nI e), .ref 26], mjH I X)) (fun _ => rfl) ?_
    refine mjGo.op (pc' := 43) (F' := ([some (.ref 0), some (.int (nI e)), some (.int s9)], [.ref (27 + 2 * e)], mjH I X)) (o := mjaald 15 43) rfl (fun _ => row_aald he) ?_
    refine mjGo.op (pc' := 46) (F' := ([some (.ref 0), some (.int (nI e)), some (.int s9)], [.int (I (27 + 2 * e) 1)], mjH I X)) (o := mjgetI [6] 1 46) rfl (fun _ => row_getI he) ?_
    refine mjGo.run 2 (pc' := (bif decide ((I (27 + 2 * e) 1) ≠ s9) then 54 else 50)) (F' := ([some (.ref 0), some (.int (nI e)), some (.int s9)], [], mjH I X)) (fun _ => rfl) ?_
    refine mjGo.br (fun q2 => ?_) (fun q2 => ?_)
    · show mjGo _ _ 54 _ _
      exact mjGo.ret 2 (fun _ => rfl) rfl
    · show mjGo _ _ 50 _ _
      first | exact absurd q2 hq | exact absurd hq q2 | (exfalso; simp_all; done)
