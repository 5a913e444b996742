/-! what holds between calls -/
def lkR (I : Nat → Nat → Int32) (X : MX) (t m i a kd wn : Nat) : Prop := X.1 (t + 4) i = some a ∧ lkK X a kd ∧ I a 0 = nI i ∧ I a 1 = I (m + 5) i ∧ I a 2 = I (m + 6) i ∧ I a 3 = nI wn ∧ I (m + 7) i = nI wn ∧ wn ≤ 719 ∧ I (m + 4) i = nI kd ∧ (-20 ≤ (I (m + 6) i).toInt ∧ (I (m + 6) i).toInt ≤ 20)
def tR (I : Nat → Nat → Int32) (X : MX) (t m np n9 nl lw : Nat) : Prop := (I t 5 = nI n9 ∧ I m 0 = nI n9) ∧ (I t 6 = nI nl ∧ I m 1 = nI nl) ∧ (I t 7 = nI np ∧ I m 2 = nI np) ∧ (I t 8 = nI lw ∧ I m 3 = nI lw) ∧ (I (t + 1) = I (m + 1) ∧ I (t + 2) = I (m + 2) ∧ I (t + 3) = I (m + 3) ∧ I (t + 5) = I (m + 8)) ∧
  okW (I (m + 1)) (I (m + 2)) n9 ∧ okP (I (m + 8)) np ∧ nl ≤ 6 ∧ lw < 3 ∧ ∀ i, i < nl → ∃ a kd wn, lkR I X t m i a kd wn
def shR (I : Nat → Nat → Int32) (X : MX) (e sz so hh : Nat) : Prop := (I (27 + 2 * e) 2 = nI sz ∧ I 68 e = nI sz) ∧ (I (27 + 2 * e) 1 = nI so ∧ I 67 e = nI so) ∧ (I 24 e = nI hh ∧ I 66 e = nI hh) ∧ (sz ≤ 100 ∧ so < 3 ∧ hh < 3) ∧ (∀ j, j < 100 → I (28 + 2 * e) j = I 69 (100 * e + j)) ∧
  (hh = 1 → ∃ a kd, X.1 25 e = some a ∧ lkK X a kd ∧ I a 0 = I 71 e ∧ I a 1 = I 73 e ∧ I 72 e = nI kd)
def lkA (X : MX) : Prop := ∀ k i, k = 5 ∨ k = 17 → i < 6 → X.1 k i = none ∨ ∃ a kd, X.1 k i = some a ∧ lkK X a kd
def RI (I : Nat → Nat → Int32) (X : MX) : Prop := (∃ np n9 nl lw, tR I X 1 44 np n9 nl lw) ∧ (∃ np n9 nl lw, tR I X 13 53 np n9 nl lw) ∧ (∀ e, e < 8 → ∃ sz so hh, shR I X e sz so hh) ∧ ((I 0 3 = I 43 9 ∧ (I 0 3 = 0 ∨ I 0 3 = 1)) ∧ lkA X)
/-- cells that may hold anything between calls -/
def scr (k j : Nat) : Bool := (Nat.ble 7 k && Nat.ble k 12) || (Nat.ble 19 k && Nat.ble k 23) || (k == 43 && !(j == 9)) || (Nat.ble 62 k && Nat.ble k 65) || k == 70
def eqN (n : Nat) (I J : Nat → Nat → Int32) : Prop := ∀ k j, scr k j = false → k < n → J k j = I k j
def xle (X Y : MX) : Prop := (∀ k j, k = 5 ∨ k = 17 ∨ k = 25 → Y.1 k j = X.1 k j) ∧ (∀ k, k < X.2.2.2.1 + 75 → Y.2.2.1 k = X.2.2.1 k) ∧ X.2.2.2.1 ≤ Y.2.2.2.1
theorem eqN.row {n : Nat} {I J : Nat → Nat → Int32} (h : eqN n I J) {k : Nat} (hk : ∀ j, scr k j = false) (hn : k < n) : J k = I k := funext fun j => h k j (hk j) hn
theorem eqN.rf {n : Nat} {I : Nat → Nat → Int32} : eqN n I I := fun _ _ _ _ => rfl
theorem eqN.trans {n m : Nat} {I J L : Nat → Nat → Int32} (h : eqN n I J) (h2 : eqN m J L) (hm : n ≤ m) : eqN n I L := fun k j q w => (h2 k j q (by omega)).trans (h k j q w)
theorem eqN.of {n : Nat} {s : Nat → Nat → Bool} {I J : Nat → Nat → Int32} (h : eqO s I J) (hs : ∀ k j, s k j = true → scr k j = true) : eqN n I J := fun k j q _ => (h.mono hs) k j q
theorem xle.rf {X : MX} : xle X X := ⟨fun _ _ _ => rfl, fun _ _ => rfl, Nat.le_refl _⟩
theorem xle.trans {X Y Z : MX} (h : xle X Y) (h2 : xle Y Z) : xle X Z := ⟨fun k j q => (h2.1 k j q).trans (h.1 k j q), fun k q => (h2.2.1 k (by have := h.2.2; omega)).trans (h.2.1 k q), Nat.le_trans h.2.2 h2.2.2⟩
theorem lkK.le {X Y : MX} {a kd : Nat} (h : lkK X a kd) (hx : xle X Y) : lkK Y a kd := ⟨h.1, by have := h.2.1; have := hx.2.2; omega, (hx.2.1 a h.2.1).trans h.2.2.1, h.2.2.2⟩
theorem ble_no {a b : Nat} (h : b < a) : Nat.ble a b = false := by
  cases e : Nat.ble a b
  · rfl
  · have := Nat.le_of_ble_eq_true e
    omega
theorem scr_hi {k j : Nat} (h : 75 ≤ k) : scr k j = false := by
  unfold scr
  have e1 : Nat.ble k 12 = false := ble_no (by omega)
  have e2 : Nat.ble k 23 = false := ble_no (by omega)
  have e3 : (k == 43) = false := by simp; omega
  have e4 : Nat.ble k 65 = false := ble_no (by omega)
  have e5 : (k == 70) = false := by simp; omega
  rw [e1, e2, e3, e4, e5]
  simp
theorem lkR.eq {I J : Nat → Nat → Int32} {X Y : MX} {t m i a kd wn : Nat} (h : lkR I X t m i a kd wn) (e : eqN (X.2.2.2.1 + 75) I J) (hx : xle X Y) (ht : t + 4 = 5 ∨ t + 4 = 17) (h4 : J (m + 4) = I (m + 4)) (h5 : J (m + 5) = I (m + 5)) (h6 : J (m + 6) = I (m + 6)) (h7 : J (m + 7) = I (m + 7)) : lkR J Y t m i a kd wn := by
  obtain ⟨g1, g2, g3, g4, g5, g6, g7, g8, g9, g10⟩ := h
  have ha : ∀ j, J a j = I a j := fun j => e a j (scr_hi g2.1) g2.2.1
  refine ⟨(hx.1 _ _ (by omega)).trans g1, g2.le hx, ?_, ?_, ?_, ?_, ?_, g8, ?_, ?_⟩
  · rw [ha, g3]
  · rw [ha, h5, g4]
  · rw [ha, h6, g5]
  · rw [ha, g6]
  · rw [h7, g7]
  · rw [h4, g9]
  · rw [h6]
    exact g10
theorem tR.eq {I J : Nat → Nat → Int32} {X Y : MX} {t m np n9 nl lw : Nat} (h : tR I X t m np n9 nl lw) (e : eqN (X.2.2.2.1 + 75) I J) (hx : xle X Y) (ht : t = 1 ∧ m = 44 ∨ t = 13 ∧ m = 53) : tR J Y t m np n9 nl lw := by
  obtain ⟨⟨g1, g2⟩, ⟨g3, g4⟩, ⟨g5, g6⟩, ⟨g7, g8⟩, ⟨r1, r2, r3, r4⟩, g9, g10, g11, g12, g13⟩ := h
  have key : ∀ k, k < 75 → (∀ j, scr k j = false) → J k = I k := fun k h1 h2 => e.row h2 (by omega)
  rcases ht with ⟨rfl, rfl⟩ | ⟨rfl, rfl⟩
  · have k1 := key 1 (by omega) (fun _ => rfl)
    have k2 := key (1 + 1) (by omega) (fun _ => rfl)
    have k3 := key (1 + 2) (by omega) (fun _ => rfl)
    have k4 := key (1 + 3) (by omega) (fun _ => rfl)
    have k6 := key (1 + 5) (by omega) (fun _ => rfl)
    have m0 := key 44 (by omega) (fun _ => rfl)
    have m1 := key (44 + 1) (by omega) (fun _ => rfl)
    have m2 := key (44 + 2) (by omega) (fun _ => rfl)
    have m3 := key (44 + 3) (by omega) (fun _ => rfl)
    have m4 := key (44 + 4) (by omega) (fun _ => rfl)
    have m5 := key (44 + 5) (by omega) (fun _ => rfl)
    have m6 := key (44 + 6) (by omega) (fun _ => rfl)
    have m7 := key (44 + 7) (by omega) (fun _ => rfl)
    have m8 := key (44 + 8) (by omega) (fun _ => rfl)
    unfold tR
    rw [k1, k2, k3, k4, k6, m0, m1, m2, m3, m8]
    refine ⟨⟨g1, g2⟩, ⟨g3, g4⟩, ⟨g5, g6⟩, ⟨g7, g8⟩, ⟨r1, r2, r3, r4⟩, g9, g10, g11, g12, fun i hi => ?_⟩
    obtain ⟨a, kd, wn, h⟩ := g13 i hi
    exact ⟨a, kd, wn, h.eq e hx (by omega) m4 m5 m6 m7⟩
  · have k1 := key 13 (by omega) (fun _ => rfl)
    have k2 := key (13 + 1) (by omega) (fun _ => rfl)
    have k3 := key (13 + 2) (by omega) (fun _ => rfl)
    have k4 := key (13 + 3) (by omega) (fun _ => rfl)
    have k6 := key (13 + 5) (by omega) (fun _ => rfl)
    have m0 := key 53 (by omega) (fun _ => rfl)
    have m1 := key (53 + 1) (by omega) (fun _ => rfl)
    have m2 := key (53 + 2) (by omega) (fun _ => rfl)
    have m3 := key (53 + 3) (by omega) (fun _ => rfl)
    have m4 := key (53 + 4) (by omega) (fun _ => rfl)
    have m5 := key (53 + 5) (by omega) (fun _ => rfl)
    have m6 := key (53 + 6) (by omega) (fun _ => rfl)
    have m7 := key (53 + 7) (by omega) (fun _ => rfl)
    have m8 := key (53 + 8) (by omega) (fun _ => rfl)
    unfold tR
    rw [k1, k2, k3, k4, k6, m0, m1, m2, m3, m8]
    refine ⟨⟨g1, g2⟩, ⟨g3, g4⟩, ⟨g5, g6⟩, ⟨g7, g8⟩, ⟨r1, r2, r3, r4⟩, g9, g10, g11, g12, fun i hi => ?_⟩
    obtain ⟨a, kd, wn, h⟩ := g13 i hi
    exact ⟨a, kd, wn, h.eq e hx (by omega) m4 m5 m6 m7⟩
theorem scr_row {e j : Nat} (he : e < 8) : scr (27 + 2 * e) j = false ∧ scr (28 + 2 * e) j = false := by
  match e, he with
  | 0, _ => exact ⟨rfl, rfl⟩
  | 1, _ => exact ⟨rfl, rfl⟩
  | 2, _ => exact ⟨rfl, rfl⟩
  | 3, _ => exact ⟨rfl, rfl⟩
  | 4, _ => exact ⟨rfl, rfl⟩
  | 5, _ => exact ⟨rfl, rfl⟩
  | 6, _ => exact ⟨rfl, rfl⟩
  | 7, _ => exact ⟨rfl, rfl⟩
  | n + 8, h => omega
theorem shR.eq {I J : Nat → Nat → Int32} {X Y : MX} {e sz so hh : Nat} (h : shR I X e sz so hh) (he : e < 8) (q : eqN (X.2.2.2.1 + 75) I J) (hx : xle X Y) : shR J Y e sz so hh := by
  have key : ∀ k, k < 75 → (∀ j, scr k j = false) → J k = I k := fun k h1 h2 => q.row h2 (by omega)
  have r1 := key (27 + 2 * e) (by omega) (fun _ => (scr_row he).1)
  have r2 := key (28 + 2 * e) (by omega) (fun _ => (scr_row he).2)
  have m1 := key 24 (by omega) (fun _ => rfl)
  have m2 := key 66 (by omega) (fun _ => rfl)
  have m3 := key 67 (by omega) (fun _ => rfl)
  have m4 := key 68 (by omega) (fun _ => rfl)
  have m5 := key 69 (by omega) (fun _ => rfl)
  have m6 := key 71 (by omega) (fun _ => rfl)
  have m7 := key 72 (by omega) (fun _ => rfl)
  have m8 := key 73 (by omega) (fun _ => rfl)
  obtain ⟨g1, g2, g3, g4, g5, g6⟩ := h
  unfold shR
  rw [r1, r2, m1, m2, m3, m4, m5, m6, m7, m8]
  refine ⟨g1, g2, g3, g4, g5, fun h1 => ?_⟩
  obtain ⟨a, kd, q1, q2, q3, q4, q5⟩ := g6 h1
  have ha : ∀ j, J a j = I a j := fun j => q a j (scr_hi q2.1) q2.2.1
  exact ⟨a, kd, (hx.1 _ _ (by omega)).trans q1, q2.le hx, by rw [ha, q3], by rw [ha, q4], q5⟩
theorem lkA.le {X Y : MX} (h : lkA X) (hx : xle X Y) : lkA Y := fun k i hk hi => by
  rw [hx.1 k i (by omega)]
  rcases h k i hk hi with h | ⟨a, kd, h1, h2⟩
  · exact Or.inl h
  · exact Or.inr ⟨a, kd, h1, h2.le hx⟩
theorem RI.eq {I J : Nat → Nat → Int32} {X Y : MX} (h : RI I X) (e : eqN (X.2.2.2.1 + 75) I J) (hx : xle X Y) : RI J Y := by
  obtain ⟨⟨a1, a2, a3, a4, h1⟩, ⟨b1, b2, b3, b4, h2⟩, h3, h4⟩ := h
  refine ⟨⟨a1, a2, a3, a4, h1.eq e hx (Or.inl ⟨rfl, rfl⟩)⟩, ⟨b1, b2, b3, b4, h2.eq e hx (Or.inr ⟨rfl, rfl⟩)⟩, fun e9 he => ?_, ?_⟩
  · obtain ⟨sz, so, hh, h5⟩ := h3 e9 he
    exact ⟨sz, so, hh, h5.eq he e hx⟩
  · rw [e 0 3 rfl (by omega), e 43 9 rfl (by omega)]
    exact ⟨h4.1, h4.2.le hx⟩
/-- places and cells that a call may take -/
def grw (X Y : MX) : Prop := X.2.2.2.1 ≤ Y.2.2.2.1 ∧ Y.2.2.2.1 ≤ X.2.2.2.1 + 8 ∧ Y.2.2.2.2.1 ≤ X.2.2.2.2.1 + 8 ∧ Y.2.2.2.2.2 ≤ X.2.2.2.2.2 + 64
/-- a call of the class and of the reference: the same answer -/
def CALL (d nx nm : Nat) (ax am : List Value) : Prop := ∀ I X, RI I X → X.2.2.2.1 ≤ 800000 → ∃ v I2 X2, mjEv d nx ax (mjH I X) (.inl (some (.int v))) (mjH I2 X2) ∧ ∃ I3 X3, mjEv d nm am (mjH I2 X2) (.inl (some (.int v))) (mjH I3 X3) ∧ RI I3 X3 ∧ grw X X3
theorem grw.rf {X : MX} : grw X X := ⟨Nat.le_refl _, Nat.le_add_right _ _, Nat.le_add_right _ _, Nat.le_add_right _ _⟩
theorem CALL.pure {d nx nm : Nat} {ax am : List Value} (h : ∀ I X, RI I X → ∃ v, mjEv d nx ax (mjH I X) (.inl (some (.int v))) (mjH I X) ∧ mjEv d nm am (mjH I X) (.inl (some (.int v))) (mjH I X)) : CALL d nx nm ax am := fun I X hR _ => by
  obtain ⟨v, h1, h2⟩ := h I X hR
  exact ⟨v, I, X, h1, I, X, h2, hR, grw.rf⟩
theorem CALL.pure2 {d nx nm : Nat} {ax am : List Value} (h : ∀ I X, RI I X → ∃ v w, mjEv d nx ax (mjH I X) (.inl (some (.int v))) (mjH I X) ∧ mjEv d nm am (mjH I X) (.inl (some (.int w))) (mjH I X) ∧ v = w) : CALL d nx nm ax am := CALL.pure fun I X hR => by
  obtain ⟨v, w, h1, h2, rfl⟩ := h I X hR
  exact ⟨_, h1, h2⟩
