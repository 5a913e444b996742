/-! what a call leaves as it was -/
theorem lkR.fr {I J : Nat → Nat → Int32} {X Y : MX} {t m i a kd wn : Nat} (h : lkR I X t m i a kd wn) (e : ∀ k, 75 ≤ k → k < X.2.2.2.1 + 75 → J k = I k) (hP : Y.1 (t + 4) i = X.1 (t + 4) i) (hT : ∀ k, k < X.2.2.2.1 + 75 → Y.2.2.1 k = X.2.2.1 k) (hN : X.2.2.2.1 ≤ Y.2.2.2.1) (h4 : J (m + 4) = I (m + 4)) (h5 : J (m + 5) = I (m + 5)) (h6 : J (m + 6) = I (m + 6)) (h7 : J (m + 7) = I (m + 7)) : lkR J Y t m i a kd wn := by
  obtain ⟨g1, ⟨k1, k2, k3, k4⟩, g3, g4, g5, g6, g7, g8, g9, g10⟩ := h
  unfold lkR
  rw [hP, e a k1 k2, h4, h5, h6, h7]
  exact ⟨g1, ⟨k1, by omega, (hT a k2).trans k3, k4⟩, g3, g4, g5, g6, g7, g8, g9, g10⟩
/-- the rows that a town is made of -/
def tRw (t m k : Nat) : Prop := k = t ∨ k = t + 1 ∨ k = t + 2 ∨ k = t + 3 ∨ k = t + 5 ∨ (m ≤ k ∧ k ≤ m + 8)
def xfr (X Y : MX) : Prop := (∀ k, k < X.2.2.2.1 + 75 → Y.2.2.1 k = X.2.2.1 k) ∧ X.2.2.2.1 ≤ Y.2.2.2.1
theorem xfr.rf {X : MX} : xfr X X := ⟨fun _ _ => rfl, Nat.le_refl _⟩
theorem xle.fr {X Y : MX} (h : xle X Y) : xfr X Y := h.2
theorem tR.fr {I J : Nat → Nat → Int32} {X Y : MX} {t m np n9 nl lw : Nat} (h : tR I X t m np n9 nl lw) (e : ∀ k, tRw t m k → J k = I k) (e2 : ∀ k, 75 ≤ k → k < X.2.2.2.1 + 75 → J k = I k) (hP : ∀ j, Y.1 (t + 4) j = X.1 (t + 4) j) (hx : xfr X Y) : tR J Y t m np n9 nl lw := by
  obtain ⟨⟨g1, g2⟩, ⟨g3, g4⟩, ⟨g5, g6⟩, ⟨g7, g8⟩, ⟨r1, r2, r3, r4⟩, g9, g10, g11, g12, g13⟩ := h
  unfold tR
  rw [e t (Or.inl rfl), e (t + 1) (by unfold tRw; omega), e (t + 2) (by unfold tRw; omega), e (t + 3) (by unfold tRw; omega), e (t + 5) (by unfold tRw; omega), e m (by unfold tRw; omega), e (m + 1) (by unfold tRw; omega), e (m + 2) (by unfold tRw; omega), e (m + 3) (by unfold tRw; omega), e (m + 8) (by unfold tRw; omega)]
  refine ⟨⟨g1, g2⟩, ⟨g3, g4⟩, ⟨g5, g6⟩, ⟨g7, g8⟩, ⟨r1, r2, r3, r4⟩, g9, g10, g11, g12, fun i hi => ?_⟩
  obtain ⟨a, kd, wn, h⟩ := g13 i hi
  exact ⟨a, kd, wn, h.fr e2 (hP i) hx.1 hx.2 (e (m + 4) (by unfold tRw; omega)) (e (m + 5) (by unfold tRw; omega)) (e (m + 6) (by unfold tRw; omega)) (e (m + 7) (by unfold tRw; omega))⟩
def sRw (e k : Nat) : Prop := k = 27 + 2 * e ∨ k = 28 + 2 * e ∨ k = 24 ∨ (66 ≤ k ∧ k ≤ 69) ∨ (71 ≤ k ∧ k ≤ 73)
theorem shR.fr {I J : Nat → Nat → Int32} {X Y : MX} {e sz so hh : Nat} (h : shR I X e sz so hh) (q : ∀ k, sRw e k → J k = I k) (q2 : ∀ k, 75 ≤ k → k < X.2.2.2.1 + 75 → J k = I k) (hP : ∀ j, Y.1 25 j = X.1 25 j) (hx : xfr X Y) : shR J Y e sz so hh := by
  obtain ⟨g1, g2, g3, g4, g5, g6⟩ := h
  unfold shR
  rw [q (27 + 2 * e) (Or.inl rfl), q (28 + 2 * e) (by unfold sRw; omega), q 24 (by unfold sRw; omega), q 66 (by unfold sRw; omega), q 67 (by unfold sRw; omega), q 68 (by unfold sRw; omega), q 69 (by unfold sRw; omega), q 71 (by unfold sRw; omega), q 72 (by unfold sRw; omega), q 73 (by unfold sRw; omega)]
  refine ⟨g1, g2, g3, g4, g5, fun h1 => ?_⟩
  obtain ⟨a, kd, q1, ⟨k1, k2, k3, k4⟩, q3, q4, q5⟩ := g6 h1
  rw [hP]
  exact ⟨a, kd, q1, ⟨k1, by have := hx.2; omega, (hx.1 a k2).trans k3, k4⟩, by rw [q2 a k1 k2, q3], by rw [q2 a k1 k2, q4], q5⟩
theorem mjU_r {α : Type} {f : Nat → Nat → α} {k j a : Nat} {v : α} (h : a ≠ k) : mjU f k j v a = f a := funext fun _ => if_neg h
/-! law -/
theorem law_RI {I : Nat → Nat → Int32} {X : MX} {l : Nat} (h : RI I X) (hl : l < 3) : RI (mjU (mjU I 1 8 (nI l)) 44 3 (nI l)) X := by
  obtain ⟨⟨np, n9, nl, lw, h1⟩, ⟨b1, b2, b3, b4, h2⟩, h3, h4⟩ := h
  have key : ∀ k, k ≠ 1 → k ≠ 44 → mjU (mjU I 1 8 (nI l)) 44 3 (nI l) k = I k := fun k q1 q2 => by rw [mjU_r q2, mjU_r q1]
  refine ⟨⟨np, n9, nl, l, ?_⟩, ⟨b1, b2, b3, b4, h2.fr (fun k q => key k (by unfold tRw at q; omega) (by unfold tRw at q; omega)) (fun k q _ => key k (by omega) (by omega)) (fun _ => rfl) xfr.rf⟩, fun e he => ?_, ?_⟩
  · obtain ⟨⟨g1, g2⟩, ⟨g3, g4⟩, ⟨g5, g6⟩, ⟨g7, g8⟩, ⟨r1, r2, r3, r4⟩, g9, g10, g11, g12, g13⟩ := h1
    refine ⟨⟨g1, g2⟩, ⟨g3, g4⟩, ⟨g5, g6⟩, ⟨rfl, rfl⟩, ⟨r1, r2, r3, r4⟩, g9, g10, g11, hl, fun i hi => ?_⟩
    obtain ⟨a, kd, wn, h⟩ := g13 i hi
    exact ⟨a, kd, wn, h.fr (fun k q _ => key k (by omega) (by omega)) rfl (fun _ _ => rfl) (Nat.le_refl _) rfl rfl rfl rfl⟩
  · obtain ⟨sz, so, hh, h5⟩ := h3 e he
    exact ⟨sz, so, hh, h5.fr (fun k q => key k (by unfold sRw at q; omega) (by unfold sRw at q; omega)) (fun k q _ => key k (by omega) (by omega)) (fun _ => rfl) xfr.rf⟩
  · exact h4
