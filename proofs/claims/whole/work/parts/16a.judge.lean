/-! judge -/
def jgL (bad : Nat → Bool) (fin : Int32) : Nat → Nat → Int32
  | 0, _ => fin
  | k + 1, j => if bad j = true then nI j else jgL bad fin k (j + 1)
theorem jgL_cg {b c : Nat → Bool} {fin : Int32} : ∀ (k j : Nat), (∀ i, j ≤ i → i < j + k → b i = c i) → jgL b fin k j = jgL c fin k j
  | 0, _, _ => rfl
  | k + 1, j, h => by rw [jgL, jgL, h j (by omega) (by omega), jgL_cg k (j + 1) (fun i h1 h2 => h i (by omega) (by omega))]
theorem mjmin_nI {a b : Nat} (ha : a < 2 ^ 31) (hb : b < 2 ^ 31) : mjmin (nI a) (nI b) = nI (min a b) := by
  apply Int32.toInt_inj.mp
  rw [i32_min, nI_toInt ha, nI_toInt hb, nI_toInt (by omega)]
  omega
def jgB (v g : Nat → Int32) (le : Int32) (j : Nat) : Bool := !decide (v j = le) && !decide (v j = g j)
theorem jgB_1 {v g : Nat → Int32} {le : Int32} {j : Nat} (h : v j = le) : jgB v g le j = false := by
  unfold jgB
  rw [decide_eq_true h]
  rfl
theorem jgB_2 {v g : Nat → Int32} {le : Int32} {j : Nat} (h : v j = g j) : jgB v g le j = false := by
  unfold jgB
  rw [decide_eq_true h, Bool.not_true, Bool.and_false]
theorem jgB_3 {v g : Nat → Int32} {le : Int32} {j : Nat} (h : ¬ v j = le) (h2 : ¬ v j = g j) : jgB v g le j = true := by
  unfold jgB
  rw [decide_eq_false h, decide_eq_false h2]
  rfl
def jgF (sz len : Nat) : Int32 := if sz = len then -4 else nI (min sz len)
theorem x_jg_loop {d e i a sz len b : Nat} {I : Nat → Nat → Int32} {X : MX} (he : e < 8) (hz : I (27 + 2 * e) 2 = nI sz) (hs : sz ≤ 100) (hl : I 19 8 = nI len) (hl3 : len ≤ 13) (hb : b = min sz len) : ∀ (k j : Nat) (o8 : Option Value), j + k = b →
    mjGo (d + 3) nyX11_judge 79 ([some (.ref 0), some (.int (nI i)), some (.int (nI e)), some (.ref a), some (.int 0), some (.ref (27 + 2 * e)), some (.int (nI b)), some (.int (nI j)), o8], [], mjH I X) (fun x => x = (.inl (some (.int (jgL (jgB (fun j => xVal I e (nI j)) (fun j => xLookN I (nI j)) (xLeast I e)) (jgF sz len) k j))), mjH I X)) := by
  intro k
  induction k with
  | zero =>
    intro j o8 hj
    refine mjGo.run 2 (pc' := 83) (F' := ([some (.ref 0), some (.int (nI i)), some (.int (nI e)), some (.ref a), some (.int 0), some (.ref (27 + 2 * e)), some (.int (nI b)), some (.int (nI j)), o8], [.int (nI b), .int (nI j)], mjH I X)) (fun _ => rfl) ?_
    refine mjGo.run 1 (pc' := (bif decide ((nI b) ≤ (nI j)) then 128 else 86)) (F' := ([some (.ref 0), some (.int (nI i)), some (.int (nI e)), some (.ref a), some (.int 0), some (.ref (27 + 2 * e)), some (.int (nI b)), some (.int (nI j)), o8], [], mjH I X)) (fun _ => rfl) ?_
    refine mjGo.brT (show (nI b) ≤ (nI j) by rw [nI_leI (by omega) (by omega)]; omega) ?_
    show mjGo _ _ 128 _ _
    refine mjGo.run 1 (pc' := 130) (F' := ([some (.ref 0), some (.int (nI i)), some (.int (nI e)), some (.ref a), some (.int 0), some (.ref (27 + 2 * e)), some (.int (nI b)), some (.int (nI j)), o8], [.ref (27 + 2 * e)], mjH I X)) (fun _ => rfl) ?_
    refine mjGo.op (pc' := 133) (F' := ([some (.ref 0), some (.int (nI i)), some (.int (nI e)), some (.ref a), some (.int 0), some (.ref (27 + 2 * e)), some (.int (nI b)), some (.int (nI j)), o8], [.int (I (27 + 2 * e) 2)], mjH I X)) (o := mjgetI [6] 2 133) rfl (fun _ => row_getI he) ?_
    refine mjGo.run 4 (pc' := (bif decide ((I (27 + 2 * e) 2) ≠ (I 19 8)) then 148 else 143)) (F' := ([some (.ref 0), some (.int (nI i)), some (.int (nI e)), some (.ref a), some (.int 0), some (.ref (27 + 2 * e)), some (.int (nI b)), some (.int (nI j)), o8], [], mjH I X)) (fun _ => rfl) ?_
    refine mjGo.br (fun q1 => ?_) (fun q1 => ?_)
    · show mjGo _ _ 148 _ _
      rw [hz, hl, ne_eq, nI_eq (by omega) (by omega)] at q1
      have e9 : jgL (jgB (fun j => xVal I e (nI j)) (fun j => xLookN I (nI j)) (xLeast I e)) (jgF sz len) 0 j = nI b := by rw [jgL, jgF, if_neg q1, hb]
      rw [e9]
      exact mjGo.ret 2 (fun _ => rfl) rfl
    · show mjGo _ _ 143 _ _
      rw [hz, hl, ne_eq, nI_eq (by omega) (by omega)] at q1
      have e9 : jgL (jgB (fun j => xVal I e (nI j)) (fun j => xLookN I (nI j)) (xLeast I e)) (jgF sz len) 0 j = -4 := by rw [jgL, jgF, if_pos (Decidable.not_not.mp q1)]
      rw [e9]
      exact mjGo.ret 3 (fun _ => rfl) rfl
  | succ k ih =>
    intro j o8 hj
    refine mjGo.run 2 (pc' := 83) (F' := ([some (.ref 0), some (.int (nI i)), some (.int (nI e)), some (.ref a), some (.int 0), some (.ref (27 + 2 * e)), some (.int (nI b)), some (.int (nI j)), o8], [.int (nI b), .int (nI j)], mjH I X)) (fun _ => rfl) ?_
    refine mjGo.run 1 (pc' := (bif decide ((nI b) ≤ (nI j)) then 128 else 86)) (F' := ([some (.ref 0), some (.int (nI i)), some (.int (nI e)), some (.ref a), some (.int 0), some (.ref (27 + 2 * e)), some (.int (nI b)), some (.int (nI j)), o8], [], mjH I X)) (fun _ => rfl) ?_
    refine mjGo.brF (show ¬ (nI b) ≤ (nI j) by rw [nI_leI (by omega) (by omega)]; omega) ?_
    show mjGo _ _ 86 _ _
    refine mjGo.run 2 (pc' := 90) (F' := ([some (.ref 0), some (.int (nI i)), some (.int (nI e)), some (.ref a), some (.int 0), some (.ref (27 + 2 * e)), some (.int (nI b)), some (.int (nI j)), o8], [.int (nI j), .ref (27 + 2 * e)], mjH I X)) (fun _ => rfl) ?_
    refine mjGo.callL (o := some (.int (xVal I e (nI j)))) (h' := mjH I X) (nx := 93) rfl rfl rfl ((row_N he).1) ⟨_, row_lk he, c_xVal (d + 1) e (nI j) he⟩ ?_
    show mjGo _ _ 93 ([some (.ref 0), some (.int (nI i)), some (.int (nI e)), some (.ref a), some (.int 0), some (.ref (27 + 2 * e)), some (.int (nI b)), some (.int (nI j)), o8], [.int (xVal I e (nI j))], mjH I X) _
    refine mjGo.run 3 (pc' := 99) (F' := ([some (.ref 0), some (.int (nI i)), some (.int (nI e)), some (.ref a), some (.int 0), some (.ref (27 + 2 * e)), some (.int (nI b)), some (.int (nI j)), some (.int (xVal I e (nI j)))], [.ref (27 + 2 * e), .int (xVal I e (nI j))], mjH I X)) (fun _ => rfl) ?_
    refine mjGo.callL (o := some (.int (xLeast I e))) (h' := mjH I X) (nx := 102) rfl rfl rfl ((row_N he).1) ⟨_, row_lk he, c_xLeast (d + 2) e he⟩ ?_
    show mjGo _ _ 102 ([some (.ref 0), some (.int (nI i)), some (.int (nI e)), some (.ref a), some (.int 0), some (.ref (27 + 2 * e)), some (.int (nI b)), some (.int (nI j)), some (.int (xVal I e (nI j)))], [.int (xLeast I e), .int (xVal I e (nI j))], mjH I X) _
    refine mjGo.run 1 (pc' := (bif decide ((xVal I e (nI j)) = (xLeast I e)) then 122 else 105)) (F' := ([some (.ref 0), some (.int (nI i)), some (.int (nI e)), some (.ref a), some (.int 0), some (.ref (27 + 2 * e)), some (.int (nI b)), some (.int (nI j)), some (.int (xVal I e (nI j)))], [], mjH I X)) (fun _ => rfl) ?_
    refine mjGo.br (fun q1 => ?_) (fun q1 => ?_)
    · show mjGo _ _ 122 _ _
      refine mjGo.run 2 (pc' := 79) (F' := ([some (.ref 0), some (.int (nI i)), some (.int (nI e)), some (.ref a), some (.int 0), some (.ref (27 + 2 * e)), some (.int (nI b)), some (.int ((nI j) + 1)), some (.int (xVal I e (nI j)))], [], mjH I X)) (fun _ => rfl) ?_
      have k9 := ih (j + 1) (some (.int (xVal I e (nI j)))) (by omega)
      rw [← nI_1] at k9
      rw [jgL, jgB_1 (v := fun j => xVal I e (nI j)) (g := fun j => xLookN I (nI j)) q1, if_neg (by decide)]
      exact k9
    · show mjGo _ _ 105 _ _
      refine mjGo.run 4 (pc' := 113) (F' := ([some (.ref 0), some (.int (nI i)), some (.int (nI e)), some (.ref a), some (.int 0), some (.ref (27 + 2 * e)), some (.int (nI b)), some (.int (nI j)), some (.int (xVal I e (nI j)))], [.int (nI j), .ref 19, .int (xVal I e (nI j))], mjH I X)) (fun _ => rfl) ?_
      refine mjGo.call (n := 2) (j := 45) (nx := 116) (o := some (.int (xLookN I (nI j)))) (h' := mjH I X) (fun _ => rfl) (c_xLookN (d + 2) (nI j)) ?_
      show mjGo _ _ 116 ([some (.ref 0), some (.int (nI i)), some (.int (nI e)), some (.ref a), some (.int 0), some (.ref (27 + 2 * e)), some (.int (nI b)), some (.int (nI j)), some (.int (xVal I e (nI j)))], [.int (xLookN I (nI j)), .int (xVal I e (nI j))], mjH I X) _
      refine mjGo.run 1 (pc' := (bif decide ((xVal I e (nI j)) = (xLookN I (nI j))) then 122 else 119)) (F' := ([some (.ref 0), some (.int (nI i)), some (.int (nI e)), some (.ref a), some (.int 0), some (.ref (27 + 2 * e)), some (.int (nI b)), some (.int (nI j)), some (.int (xVal I e (nI j)))], [], mjH I X)) (fun _ => rfl) ?_
      refine mjGo.br (fun q2 => ?_) (fun q2 => ?_)
      · show mjGo _ _ 122 _ _
        refine mjGo.run 2 (pc' := 79) (F' := ([some (.ref 0), some (.int (nI i)), some (.int (nI e)), some (.ref a), some (.int 0), some (.ref (27 + 2 * e)), some (.int (nI b)), some (.int ((nI j) + 1)), some (.int (xVal I e (nI j)))], [], mjH I X)) (fun _ => rfl) ?_
        have k9 := ih (j + 1) (some (.int (xVal I e (nI j)))) (by omega)
        rw [← nI_1] at k9
        rw [jgL, jgB_2 (v := fun j => xVal I e (nI j)) (g := fun j => xLookN I (nI j)) q2, if_neg (by decide)]
        exact k9
      · show mjGo _ _ 119 _ _
        rw [jgL, if_pos (jgB_3 (v := fun j => xVal I e (nI j)) (g := fun j => xLookN I (nI j)) q1 q2)]
        exact mjGo.ret 2 (fun _ => rfl) rfl
theorem c_xJgA (d : Nat) {q : Int32} {nl i a kd wn : Nat} {I : Nat → Nat → Int32} {X : MX} (hn : nl ≤ 6) (h16 : I 1 6 = nI nl) (hi : i < nl) (hl : lkR I X 1 44 i a kd wn) (hs : xShelf q = 0) : mjEv (d + 6) nyX11_judge [.ref 0, .int (nI i), .int q] (mjH I X) (.inl (some (.int (-1)))) (mjH I X) := by
  obtain ⟨hP, hlk, l0, l1, l2, l3, l4, hwn, l5, hdr⟩ := hl
  refine mjEv.of ?_
  show mjGo (d + 6) nyX11_judge 0 ([some (.ref 0), some (.int (nI i)), some (.int q), none, none, none, none, none, none], [], mjH I X) _
  refine mjGo.run 2 (pc' := 2) (F' := ([some (.ref 0), some (.int (nI i)), some (.int q), none, none, none, none, none, none], [.int (nI i), .ref 0], mjH I X)) (fun _ => rfl) ?_
  refine mjGo.call (n := 2) (j := 91) (nx := 5) (o := some (.ref a)) (h' := mjH I X) (fun _ => rfl) (c_lkYes _ hn h16 hi hP) ?_
  show mjGo _ _ 5 ([some (.ref 0), some (.int (nI i)), some (.int q), none, none, none, none, none, none], [.ref a], mjH I X) _
  refine mjGo.run 6 (pc' := 15) (F' := ([some (.ref 0), some (.int (nI i)), some (.int q), some (.ref a), none, none, none, none, none], [.int (-1), .int q, .ref 0], mjH I X)) (fun _ => rfl) ?_
  refine mjGo.call (n := 3) (j := 78) (nx := 18) (o := some (.int (-1))) (h' := mjH I X) (fun _ => rfl) (c_rrA _ hs) ?_
  show mjGo _ _ 18 ([some (.ref 0), some (.int (nI i)), some (.int q), some (.ref a), none, none, none, none, none], [.int (-1)], mjH I X) _
  exact mjGo.ret 5 (fun _ => rfl) rfl
theorem c_xJgB (d : Nat) {e : Nat} {nl i a kd wn : Nat} {I : Nat → Nat → Int32} {X : MX} (hn : nl ≤ 6) (h16 : I 1 6 = nI nl) (hi : i < nl) (hl : lkR I X 1 44 i a kd wn) (he : e < 8) (hh : I 24 e = 0) : mjEv (d + 6) nyX11_judge [.ref 0, .int (nI i), .int (nI e)] (mjH I X) (.inl (some (.int (-11)))) (mjH I X) := by
  obtain ⟨hP, hlk, l0, l1, l2, l3, l4, hwn, l5, hdr⟩ := hl
  refine mjEv.of ?_
  show mjGo (d + 6) nyX11_judge 0 ([some (.ref 0), some (.int (nI i)), some (.int (nI e)), none, none, none, none, none, none], [], mjH I X) _
  refine mjGo.run 2 (pc' := 2) (F' := ([some (.ref 0), some (.int (nI i)), some (.int (nI e)), none, none, none, none, none, none], [.int (nI i), .ref 0], mjH I X)) (fun _ => rfl) ?_
  refine mjGo.call (n := 2) (j := 91) (nx := 5) (o := some (.ref a)) (h' := mjH I X) (fun _ => rfl) (c_lkYes _ hn h16 hi hP) ?_
  show mjGo _ _ 5 ([some (.ref 0), some (.int (nI i)), some (.int (nI e)), none, none, none, none, none, none], [.ref a], mjH I X) _
  refine mjGo.run 6 (pc' := 15) (F' := ([some (.ref 0), some (.int (nI i)), some (.int (nI e)), some (.ref a), none, none, none, none, none], [.int (-1), .int (nI e), .ref 0], mjH I X)) (fun _ => rfl) ?_
  refine mjGo.call (n := 3) (j := 78) (nx := 18) (o := some (.int (-11))) (h' := mjH I X) (fun _ => rfl) (c_rrB _ he hh) ?_
  show mjGo _ _ 18 ([some (.ref 0), some (.int (nI i)), some (.int (nI e)), some (.ref a), none, none, none, none, none], [.int (-11)], mjH I X) _
  exact mjGo.ret 5 (fun _ => rfl) rfl
theorem c_xJgC (d : Nat) {e : Nat} {nl i a kd wn : Nat} {I : Nat → Nat → Int32} {X : MX} (hn : nl ≤ 6) (h16 : I 1 6 = nI nl) (hi : i < nl) (hl : lkR I X 1 44 i a kd wn) (he : e < 8) (hh : I 24 e = 1) : mjEv (d + 6) nyX11_judge [.ref 0, .int (nI i), .int (nI e)] (mjH I X) (.inl (some (.int (-12)))) (mjH I X) := by
  obtain ⟨hP, hlk, l0, l1, l2, l3, l4, hwn, l5, hdr⟩ := hl
  refine mjEv.of ?_
  show mjGo (d + 6) nyX11_judge 0 ([some (.ref 0), some (.int (nI i)), some (.int (nI e)), none, none, none, none, none, none], [], mjH I X) _
  refine mjGo.run 2 (pc' := 2) (F' := ([some (.ref 0), some (.int (nI i)), some (.int (nI e)), none, none, none, none, none, none], [.int (nI i), .ref 0], mjH I X)) (fun _ => rfl) ?_
  refine mjGo.call (n := 2) (j := 91) (nx := 5) (o := some (.ref a)) (h' := mjH I X) (fun _ => rfl) (c_lkYes _ hn h16 hi hP) ?_
  show mjGo _ _ 5 ([some (.ref 0), some (.int (nI i)), some (.int (nI e)), none, none, none, none, none, none], [.ref a], mjH I X) _
  refine mjGo.run 6 (pc' := 15) (F' := ([some (.ref 0), some (.int (nI i)), some (.int (nI e)), some (.ref a), none, none, none, none, none], [.int (-1), .int (nI e), .ref 0], mjH I X)) (fun _ => rfl) ?_
  refine mjGo.call (n := 3) (j := 78) (nx := 18) (o := some (.int (-12))) (h' := mjH I X) (fun _ => rfl) (c_rrC _ he hh) ?_
  show mjGo _ _ 18 ([some (.ref 0), some (.int (nI i)), some (.int (nI e)), some (.ref a), none, none, none, none, none], [.int (-12)], mjH I X) _
  exact mjGo.ret 5 (fun _ => rfl) rfl
def jgV (I : Nat → Nat → Int32) (L : List Nat) (e so sz : Nat) : Int32 := jgL (jgB (fun j => I 69 (100 * e + j)) (fun j => nI (L.getD j 0)) (if so = 0 then -128 else if so = 1 then -32768 else -2147483648)) (jgF sz L.length) (min sz L.length) 0
theorem scz_row {e j : Nat} (he : e < 8) : scz (27 + 2 * e) j = false ∧ scz (28 + 2 * e) j = false := by
  match e, he with
  | 0, _ => exact ⟨rfl, rfl⟩
  | 1, _ => exact ⟨rfl, rfl⟩
  | 2, _ => exact ⟨rfl, rfl⟩
  | 3, _ => exact ⟨rfl, rfl⟩
  | 4, _ => exact ⟨rfl, rfl⟩
  | 5, _ => exact ⟨rfl, rfl⟩
  | 6, _ => exact ⟨rfl, rfl⟩
  | 7, _ => exact ⟨rfl, rfl⟩
  | n + 8, h => omega
theorem xVal_in {I : Nat → Nat → Int32} {e sz j : Nat} (hz : I (27 + 2 * e) 2 = nI sz) (hs : sz ≤ 100) (hj : j < sz) : xVal I e (nI j) = I (28 + 2 * e) j := by
  unfold xVal
  rw [xHasP_1 hz hs hj, if_neg (by decide), nI_clamp (by omega)]
theorem xVal_out {I : Nat → Nat → Int32} {e sz j : Nat} (hz : I (27 + 2 * e) 2 = nI sz) (hs : sz ≤ 100) (hj : sz ≤ j) (hj2 : j < 1000000) : xVal I e (nI j) = 0 := by
  unfold xVal xHasP
  rw [hz, if_neg (nI_pos (by omega))]
  by_cases h : (100 : Int32) ≤ nI j
  · rw [if_pos h, if_pos rfl]
  · rw [if_neg h, if_pos (show nI sz ≤ nI j by rw [nI_leI (by omega) (by omega)]; exact hj), if_pos rfl]
theorem xLeast_so {I : Nat → Nat → Int32} {e so : Nat} (h : I (27 + 2 * e) 1 = nI so) (hso : so < 3) : xLeast I e = if so = 0 then -128 else if so = 1 then -32768 else -2147483648 := by
  unfold xLeast
  rw [h]
  match so, hso with
  | 0, _ => rfl
  | 1, _ => rfl
  | 2, _ => rfl
theorem x_judge (d : Nat) {np n9 nl lw i a kd wn e sz so : Nat} {I : Nat → Nat → Int32} {X : MX} (ho : xOk I np n9) (hn : nl ≤ 6) (h16 : I 1 6 = nI nl) (hi : i < nl) (hl : lkR I X 1 44 i a kd wn) (hlw : lw < 3) (h18 : I 1 8 = nI lw) (he : e < 8) (hh : I 24 e = 2) (hz : I (27 + 2 * e) 2 = nI sz) (hs : sz ≤ 100) (hq : I (27 + 2 * e) 1 = nI so) (hso : so < 3) (hv : ∀ j, j < 100 → I (28 + 2 * e) j = I 69 (100 * e + j)) : mjEvP (d + 6) nyX11_judge [.ref 0, .int (nI i), .int (nI e)] (mjH I X) (fun o h2 => ∃ J Y, h2 = mjH J Y ∧ eqO scz I J ∧ (Y = X ∨ Y = mkX X) ∧ o = some (.int (jgV I (mD I np n9 (nI kd) (I 49 i) (I 50 i) wn (nI lw)).2.2.1.2 e so sz))) := by
  obtain ⟨hP, hlk, l0, l1, l2, l3, l4, hwn, l5, hdr⟩ := hl
  refine mjEvP.of ?_
  show mjGo (d + 6) nyX11_judge 0 ([some (.ref 0), some (.int (nI i)), some (.int (nI e)), none, none, none, none, none, none], [], mjH I X) _
  refine mjGo.run 2 (pc' := 2) (F' := ([some (.ref 0), some (.int (nI i)), some (.int (nI e)), none, none, none, none, none, none], [.int (nI i), .ref 0], mjH I X)) (fun _ => rfl) ?_
  refine mjGo.call (n := 2) (j := 91) (nx := 5) (o := some (.ref a)) (h' := mjH I X) (fun _ => rfl) (c_lkYes _ hn h16 hi hP) ?_
  show mjGo _ _ 5 ([some (.ref 0), some (.int (nI i)), some (.int (nI e)), none, none, none, none, none, none], [.ref a], mjH I X) _
  refine mjGo.run 6 (pc' := 15) (F' := ([some (.ref 0), some (.int (nI i)), some (.int (nI e)), some (.ref a), none, none, none, none, none], [.int (-1), .int (nI e), .ref 0], mjH I X)) (fun _ => rfl) ?_
  refine mjGo.call (n := 3) (j := 78) (nx := 18) (o := some (.int 0)) (h' := mjH I X) (fun _ => rfl) (c_rrD _ he hh) ?_
  show mjGo _ _ 18 ([some (.ref 0), some (.int (nI i)), some (.int (nI e)), some (.ref a), none, none, none, none, none], [.int 0], mjH I X) _
  refine mjGo.run 9 (pc' := 38) (F' := ([some (.ref 0), some (.int (nI i)), some (.int (nI e)), some (.ref a), some (.int 0), none, none, none, none], [.ref a, .ref a, .ref 1, .ref 19], mjH I X)) (fun _ => rfl) ?_
  refine mjGo.op (pc' := 41) (F' := ([some (.ref 0), some (.int (nI i)), some (.int (nI e)), some (.ref a), some (.int 0), none, none, none, none], [.int (I 50 i), .ref a, .ref 1, .ref 19], mjH I X)) (o := mjgetI [0, 1, 2, 4, 5, 7, 8, 9] 2 41) rfl (fun _ => lkK_get hlk l2) ?_
  refine mjGo.run 3 (pc' := 48) (F' := ([some (.ref 0), some (.int (nI i)), some (.int (nI e)), some (.ref a), some (.int 0), none, none, none, none], [.int (I 1 8), .int (I 50 i), .ref a, .ref 1, .ref 19], mjH I X)) (fun _ => rfl) ?_
  obtain ⟨o9, h9, hev, rfl, J, rfl, heJ, hDJ, h3J⟩ := c_xLive _ (X := X) (I0 := I) (I := I) (fg := I 49 i) (dr := (I 50 i)) (lw := lw) hlk ho eqO.rf l1 l3 hwn hdr hlw
  refine mjGo.call (n := 5) (j := 44) (nx := 51) (o := none) (h' := mjH J (mkX X)) (fun _ => rfl) ((by rw [h18]; exact hev)) ?_
  show mjGo _ _ 51 ([some (.ref 0), some (.int (nI i)), some (.int (nI e)), some (.ref a), some (.int 0), none, none, none, none], [], mjH J (mkX X)) _
  refine mjGo.run 3 (pc' := 56) (F' := ([some (.ref 0), some (.int (nI i)), some (.int (nI e)), some (.ref a), some (.int 0), none, none, none, none], [.int (nI e), .ref 26], mjH J (mkX X))) (fun _ => rfl) ?_
  refine mjGo.op (pc' := 57) (F' := ([some (.ref 0), some (.int (nI i)), some (.int (nI e)), some (.ref a), some (.int 0), none, none, none, none], [.ref (27 + 2 * e)], mjH J (mkX X))) (o := mjaald 15 57) rfl (fun _ => row_aald he) ?_
  refine mjGo.run 2 (pc' := 61) (F' := ([some (.ref 0), some (.int (nI i)), some (.int (nI e)), some (.ref a), some (.int 0), some (.ref (27 + 2 * e)), none, none, none], [.ref (27 + 2 * e)], mjH J (mkX X))) (fun _ => rfl) ?_
  refine mjGo.op (pc' := 64) (F' := ([some (.ref 0), some (.int (nI i)), some (.int (nI e)), some (.ref a), some (.int 0), some (.ref (27 + 2 * e)), none, none, none], [.int (J (27 + 2 * e) 2)], mjH J (mkX X))) (o := mjgetI [6] 2 64) rfl (fun _ => row_getI he) ?_
  refine mjGo.run 7 (pc' := 79) (F' := ([some (.ref 0), some (.int (nI i)), some (.int (nI e)), some (.ref a), some (.int 0), some (.ref (27 + 2 * e)), some (.int (mjmin (J (27 + 2 * e) 2) (J 19 8))), some (.int 0), none], [], mjH J (mkX X))) (fun _ => rfl) ?_
  have hlen : (mD I np n9 (nI kd) (I 49 i) (I 50 i) wn (nI lw)).2.2.1.2.length ≤ 13 := mD_len ho.2.2.2.2.2.2 hwn
  have hjz : J (27 + 2 * e) 2 = nI sz := (heJ _ _ (scz_row he).1).trans hz
  have hj8 := hDJ.1.2.2.2.1
  rw [show (mjmin (J (27 + 2 * e) 2) (J 19 8)) = nI (min sz (mD I np n9 (nI kd) (I 49 i) (I 50 i) wn (nI lw)).2.2.1.2.length) by rw [hjz, hj8]; exact mjmin_nI (by omega) (by omega)]
  obtain ⟨n, x, hx, rfl⟩ := x_jg_loop (d := d + 3) (i := i) (a := a) (X := mkX X) he hjz hs hj8 hlen rfl (min sz (mD I np n9 (nI kd) (I 49 i) (I 50 i) wn (nI lw)).2.2.1.2.length) 0 none (by omega)
  refine ⟨n, _, hx, _, rfl, J, mkX X, rfl, heJ, Or.inr rfl, congrArg (fun x => some (Value.int x)) ?_⟩
  unfold jgV
  refine jgL_cg _ _ fun j _ hj => ?_
  unfold jgB
  show (!decide (xVal J e (nI j) = xLeast J e) && !decide (xVal J e (nI j) = xLookN J (nI j))) = _
  have eL : xLookN J (nI j) = nI ((mD I np n9 (nI kd) (I 49 i) (I 50 i) wn (nI lw)).2.2.1.2.getD j 0) := by
    rw [look_eq (Int32.not_lt.mp (nI_pos (by omega))) hDJ hlen, lookV, if_neg (nI_pos (by omega)), if_neg (by rw [nI_leI (by omega) (by omega)]; omega), nI_clamp (by omega)]
  rw [xVal_in hjz hs (by omega), heJ _ _ (scz_row he).2, hv j (by omega), xLeast_so ((heJ _ _ (scz_row he).1).trans hq) hso, eL]
