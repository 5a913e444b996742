/-! lookers of the class: by their kind -/
def lkc : Nat → Nat
  | 0 => 4
  | 1 => 5
  | 2 => 2
  | 3 => 1
  | 4 => 0
  | 5 => 8
  | 6 => 9
  | _ => 7
def asOf (kd : Nat) : Int32 := if kd = 4 then 2 else nI kd
theorem mjGo.callL {d i pc nx n a : Nat} {L : List (Nat × Nat)} {al : List (Option Value)} {st as : List Value} {h h' : MH} {o : Option Value} {r : MO × MH → Prop} (hp : mjPr i pc = mjcallV (fun c => mjlk c L) n nx) (hg : mjg n st = true) (ha : (st.take n).reverse = .ref a :: as) (hn : a < mjN h)
    (h1 : ∃ j, mjlk (mjT h a).1 L = some j ∧ mjEv d j (.ref a :: as) h (.inl o) h') (g : mjGo (d + 1) i nx (al, o.toList ++ st.drop n, h') r) : mjGo (d + 1) i pc (al, st, h) r := by
  obtain ⟨j, hj, h1⟩ := h1
  refine mjGo.call (n := n) (j := j) (fun call => ?_) (by rw [ha]; exact h1) g
  rw [hp]
  unfold mjcallV
  show (bif mjg n st then _ else none) = _
  rw [hg, ha]
  show (bif Nat.blt a (mjN h) then _ else none) = _
  rw [(Nat.blt_eq).mpr hn]
  dsimp only [cond_true]
  rw [hj]
def lkAt (I : Nat → Nat → Int32) (X : MX) (a kd : Nat) (nm fg dr : Int32) (wn : Nat) : Prop := 75 ≤ a ∧ a < X.2.2.2.1 + 75 ∧ X.2.2.1 a = (lkc kd, 0) ∧ kd < 8 ∧ I a 0 = nm ∧ I a 1 = fg ∧ I a 2 = dr ∧ I a 3 = nI wn
theorem mjH_T {I : Nat → Nat → Int32} {X : MX} {a : Nat} (h : 75 ≤ a) : mjT (mjH I X) a = X.2.2.1 a := by
  show (bif Nat.blt a 75 then mjlay a else X.2.2.1 a) = _
  have e : Nat.blt a 75 = false := by
    cases e : Nat.blt a 75
    · rfl
    · have := Nat.blt_eq.mp e
      omega
  rw [e]
  rfl
theorem lkAt_T {I I2 : Nat → Nat → Int32} {X : MX} {a kd : Nat} {nm fg dr : Int32} {wn : Nat} (h : lkAt I X a kd nm fg dr wn) : mjT (mjH I2 X) a = (lkc kd, 0) := by rw [mjH_T h.1, h.2.2.1]
theorem lkAt_N {I I2 : Nat → Nat → Int32} {X : MX} {a kd : Nat} {nm fg dr : Int32} {wn : Nat} (h : lkAt I X a kd nm fg dr wn) : a < mjN (mjH I2 X) := h.2.1
theorem lkc_in {kd : Nat} (h : kd < 8) : [0, 1, 2, 4, 5, 7, 8, 9].contains (lkc kd) = true := by
  revert h kd
  decide
theorem lk_get {I I2 : Nat → Nat → Int32} {X : MX} {a kd : Nat} {nm fg dr : Int32} {wn j nx : Nat} {v : Int32} {al : List (Option Value)} {st : List Value} {call : MCall} (h : lkAt I X a kd nm fg dr wn) (hv : I2 a j = v) : mjgetI [0, 1, 2, 4, 5, 7, 8, 9] j nx call (al, .ref a :: st, mjH I2 X) = some (.inl (nx, (al, .int v :: st, mjH I2 X))) := by
  unfold mjgetI
  show (bif Nat.blt a (mjN (mjH I2 X)) && [0, 1, 2, 4, 5, 7, 8, 9].contains (mjT (mjH I2 X) a).1 then (some (.inl (nx, (al, .int (I2 a j) :: st, mjH I2 X))) : Option ((Nat × MF) ⊕ (MO × MH))) else none) = _
  rw [lkAt_T h, lkc_in h.2.2.2.1, Nat.blt_eq.mpr (lkAt_N h), hv]
  rfl
theorem kd_cases {P : Nat → Prop} {kd : Nat} (h : kd < 8) (h0 : P 0) (h1 : P 1) (h2 : P 2) (h3 : P 3) (h4 : P 4) (h5 : P 5) (h6 : P 6) (h7 : P 7) : P kd := by
  match kd, h with
  | 0, _ => exact h0
  | 1, _ => exact h1
  | 2, _ => exact h2
  | 3, _ => exact h3
  | 4, _ => exact h4
  | 5, _ => exact h5
  | 6, _ => exact h6
  | 7, _ => exact h7
  | n + 8, h => omega
theorem v_early {d a kd : Nat} {f : Int32} {h : MH} (hT : mjT h a = (lkc kd, 0)) (hk : kd < 8) : ∃ j, mjlk (mjT h a).1 [(0, 27), (1, 27), (2, 27), (4, 27), (5, 28), (7, 27), (8, 27), (9, 29)] = some j ∧ mjEv d j [.ref a, .int f] h (.inl (some (.int (mEarly (asOf kd) f)))) h := by
  rw [hT]
  clear hT
  revert hk
  refine fun hk => kd_cases (P := fun kd => ∃ j, mjlk (lkc kd) [(0, 27), (1, 27), (2, 27), (4, 27), (5, 28), (7, 27), (8, 27), (9, 29)] = some j ∧ mjEv d j [.ref a, .int f] h (.inl (some (.int (mEarly (asOf kd) f)))) h) hk ?_ ?_ ?_ ?_ ?_ ?_ ?_ ?_
  · exact ⟨_, rfl, c_xE4 d a f h⟩
  · exact ⟨_, rfl, c_xE5 d a f h⟩
  · exact ⟨_, rfl, c_xE4 d a f h⟩
  · exact ⟨_, rfl, c_xE4 d a f h⟩
  · exact ⟨_, rfl, c_xE4 d a f h⟩
  · exact ⟨_, rfl, c_xE4 d a f h⟩
  · exact ⟨_, rfl, c_xE9 d a f h⟩
  · exact ⟨_, rfl, c_xE4 d a f h⟩
theorem xF8_eq (p : Int32) : xF8 p = mPays 5 p := by
  show xPart p 2 = (p + 1) / 2
  unfold xPart
  rw [if_pos (by decide), Int32.sub_eq_add_neg, Int32.add_assoc]
  rfl
theorem v_fee {d a kd : Nat} {p : Int32} {h : MH} (hT : mjT h a = (lkc kd, 0)) (hk : kd < 8) : ∃ j, mjlk (mjT h a).1 [(0, 35), (1, 35), (2, 35), (4, 35), (5, 35), (7, 36), (8, 38), (9, 35)] = some j ∧ mjEv (d + 1) j [.ref a, .int p] h (.inl (some (.int (mPays (asOf kd) p)))) h := by
  rw [hT]
  refine kd_cases (P := fun kd => ∃ j, mjlk (lkc kd) [(0, 35), (1, 35), (2, 35), (4, 35), (5, 35), (7, 36), (8, 38), (9, 35)] = some j ∧ mjEv (d + 1) j [.ref a, .int p] h (.inl (some (.int (mPays (asOf kd) p)))) h) hk ?_ ?_ ?_ ?_ ?_ ?_ ?_ ?_
  · exact ⟨_, rfl, c_xF4 _ a p h⟩
  · exact ⟨_, rfl, c_xF4 _ a p h⟩
  · exact ⟨_, rfl, c_xF4 _ a p h⟩
  · exact ⟨_, rfl, c_xF4 _ a p h⟩
  · exact ⟨_, rfl, c_xF4 _ a p h⟩
  · rw [show mPays (asOf 5) p = xF8 p from (xF8_eq p).symm]
    exact ⟨_, rfl, c_xF8 _ a p h⟩
  · exact ⟨_, rfl, c_xF4 _ a p h⟩
  · exact ⟨_, rfl, c_xF7 _ a p h⟩
theorem v_cho {d a kd : Nat} {h : MH} (hT : mjT h a = (lkc kd, 0)) (hk : kd < 8) : ∃ j, mjlk (mjT h a).1 [(0, 13), (1, 26), (2, 26), (4, 26), (5, 26), (7, 26), (8, 26), (9, 26)] = some j ∧ mjEv d j [.ref a] h (.inl (some (.int (if kd = 4 then 1 else 0)))) h := by
  rw [hT]
  refine kd_cases (P := fun kd => ∃ j, mjlk (lkc kd) [(0, 13), (1, 26), (2, 26), (4, 26), (5, 26), (7, 26), (8, 26), (9, 26)] = some j ∧ mjEv d j [.ref a] h (.inl (some (.int (if kd = 4 then 1 else 0)))) h) hk ?_ ?_ ?_ ?_ ?_ ?_ ?_ ?_
  · exact ⟨_, rfl, c_xC4 d a h⟩
  · exact ⟨_, rfl, c_xC4 d a h⟩
  · exact ⟨_, rfl, c_xC4 d a h⟩
  · exact ⟨_, rfl, c_xC4 d a h⟩
  · exact ⟨_, rfl, c_xC0 d a h⟩
  · exact ⟨_, rfl, c_xC4 d a h⟩
  · exact ⟨_, rfl, c_xC4 d a h⟩
  · exact ⟨_, rfl, c_xC4 d a h⟩
/-! prices and thoughts are the same -/
theorem mTho_eq (dr lo mi : Int32) : xTho dr lo mi = mTho dr lo mi := rfl
theorem xPrice_eq {l : Nat} (hl : l < 3) : ∀ {m : Nat}, m < 720 → xPrice (nI m) (nI l) = mPrice (nI l) (nI m) := by
  have key : ((List.range 720).all fun m => (List.range 3).all fun l => decide (xPrice (nI m) (nI l) = mPrice (nI l) (nI m))) = true := by decide +kernel
  intro m hm
  have h1 := List.all_eq_true.mp key m (List.mem_range.mpr hm)
  have h2 := List.all_eq_true.mp h1 l (List.mem_range.mpr hl)
  exact of_decide_eq_true h2
theorem mjGo.brT {c : Prop} [Decidable c] {d i a b : Nat} {F : MF} {r : MO × MH → Prop} (h : c) (g : mjGo d i a F r) : mjGo d i (bif decide c then a else b) F r := by
  rw [decide_eq_true h]
  exact g
theorem mjGo.brF {c : Prop} [Decidable c] {d i a b : Nat} {F : MF} {r : MO × MH → Prop} (h : ¬ c) (g : mjGo d i b F r) : mjGo d i (bif decide c then a else b) F r := by
  rw [decide_eq_false h]
  exact g
theorem mjGo.callR {d i pc nx n a j : Nat} {al : List (Option Value)} {st as : List Value} {h h' : MH} {o : Option Value} {r : MO × MH → Prop} (hp : mjPr i pc = mjcallV (fun _ => some j) n nx) (hg : mjg n st = true) (ha : (st.take n).reverse = .ref a :: as) (hn : a < mjN h)
    (h1 : mjEv d j (.ref a :: as) h (.inl o) h') (g : mjGo (d + 1) i nx (al, o.toList ++ st.drop n, h') r) : mjGo (d + 1) i pc (al, st, h) r := by
  refine mjGo.call (n := n) (j := j) (fun call => ?_) (by rw [ha]; exact h1) g
  rw [hp]
  unfold mjcallV
  show (bif mjg n st then _ else none) = _
  rw [hg, ha]
  show (bif Nat.blt a (mjN h) then _ else none) = _
  rw [(Nat.blt_eq).mpr hn]
  rfl
theorem lk_all {X : MX} {a kd j : Nat} {I : Nat → Nat → Int32} (h : 75 ≤ a ∧ a < X.2.2.2.1 + 75 ∧ X.2.2.1 a = (lkc kd, 0) ∧ kd < 8) : mjlk (mjT (mjH I X) a).1 [(0, j), (1, j), (2, j), (4, j), (5, j), (7, j), (8, j), (9, j)] = some j := by
  rw [mjH_T h.1, h.2.2.1]
  exact kd_cases (P := fun kd => mjlk (lkc kd) [(0, j), (1, j), (2, j), (4, j), (5, j), (7, j), (8, j), (9, j)] = some j) h.2.2.2 rfl rfl rfl rfl rfl rfl rfl rfl
