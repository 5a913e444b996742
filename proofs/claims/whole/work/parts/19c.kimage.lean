/-! image and restore keep what holds -/
theorem cpy_lt {α : Type} {f g : Nat → α} {n j : Nat} (h : j < n) : va_cpy f g 0 0 n j = f j := by
  unfold va_cpy
  rw [if_pos (by omega), show 0 + (j - 0) = j by omega]
theorem okW_cp {a b a2 b2 : Nat → Int32} {n : Nat} (h : okW a b n) (ha : ∀ k, k < 5 → a2 k = a k) (hb : ∀ k, k < 5 → b2 k = b k) : okW a2 b2 n := by
  obtain ⟨h1, h2⟩ := h
  refine ⟨h1, fun k hk => ?_⟩
  rw [ha k (by omega), hb k (by omega)]
  exact h2 k hk
theorem okP_cp {a a2 : Nat → Int32} {n : Nat} (h : okP a n) (ha : ∀ k, k < 8 → a2 k = a k) : okP a2 n := by
  obtain ⟨h1, h2, h3⟩ := h
  refine ⟨h1, fun k hk => ?_, fun p q hp hq => ?_⟩
  · rw [ha k (by omega)]
    exact h2 k hk
  · rw [ha p (by omega), ha q (by omega)]
    exact h3 p q hp hq
theorem tR.cp {I J : Nat → Nat → Int32} {X Y : MX} {t m t2 m2 np n9 nl lw np2 n92 nl2 lw2 : Nat} (h : tR I X t m np n9 nl lw) (h2 : tR I X t2 m2 np2 n92 nl2 lw2)
    (x1 : J (t2 + 1) = va_cpy (I (t + 1)) (I (t2 + 1)) 0 0 5) (x2 : J (t2 + 2) = va_cpy (I (t + 2)) (I (t2 + 2)) 0 0 5) (x3 : J (t2 + 3) = va_cpy (I (t + 3)) (I (t2 + 3)) 0 0 5) (x5 : J (t2 + 5) = va_cpy (I (t + 5)) (I (t2 + 5)) 0 0 8)
    (f5 : J t2 5 = I t 5) (f6 : J t2 6 = I t 6) (f7 : J t2 7 = I t 7) (f8 : J t2 8 = I t 8)
    (y0 : J m2 = va_cpy (I m) (I m2) 0 0 4) (y1 : J (m2 + 1) = va_cpy (I (m + 1)) (I (m2 + 1)) 0 0 5) (y2 : J (m2 + 2) = va_cpy (I (m + 2)) (I (m2 + 2)) 0 0 5) (y3 : J (m2 + 3) = va_cpy (I (m + 3)) (I (m2 + 3)) 0 0 5) (y4 : J (m2 + 4) = va_cpy (I (m + 4)) (I (m2 + 4)) 0 0 6) (y5 : J (m2 + 5) = va_cpy (I (m + 5)) (I (m2 + 5)) 0 0 6) (y6 : J (m2 + 6) = va_cpy (I (m + 6)) (I (m2 + 6)) 0 0 6) (y7 : J (m2 + 7) = va_cpy (I (m + 7)) (I (m2 + 7)) 0 0 6) (y8 : J (m2 + 8) = va_cpy (I (m + 8)) (I (m2 + 8)) 0 0 8)
    (e : ∀ k, 75 ≤ k → k < X.2.2.2.1 + 75 → J k = I k) (hP : ∀ j, j < 6 → Y.1 (t2 + 4) j = X.1 (t + 4) j) (hx : xfr X Y) : tR J Y t2 m2 np n9 nl lw := by
  obtain ⟨⟨g1, g2⟩, ⟨g3, g4⟩, ⟨g5, g6⟩, ⟨g7, g8⟩, ⟨r1, r2, r3, r4⟩, g9, g10, g11, g12, g13⟩ := h
  obtain ⟨_, _, _, _, ⟨s1, s2, s3, s4⟩, _⟩ := h2
  unfold tR
  rw [f5, f6, f7, f8, x1, x2, x3, x5, y0, y1, y2, y3, y8, cpy_lt (by omega), cpy_lt (by omega), cpy_lt (by omega), cpy_lt (by omega), r1, r2, r3, r4, s1, s2, s3, s4]
  refine ⟨⟨g1, g2⟩, ⟨g3, g4⟩, ⟨g5, g6⟩, ⟨g7, g8⟩, ⟨rfl, rfl, rfl, rfl⟩, okW_cp g9 (fun k hk => cpy_lt hk) (fun k hk => cpy_lt hk), okP_cp g10 (fun k hk => cpy_lt hk), g11, g12, fun i hi => ?_⟩
  obtain ⟨a, kd, wn, l0, ⟨k1, k2, k3, k4⟩, l3, l4, l5, l6, l7, l8, l9, l10⟩ := g13 i hi
  refine ⟨a, kd, wn, ?_⟩
  unfold lkR
  rw [hP i (by omega), e a k1 k2, y4, y5, y6, y7, cpy_lt (by omega), cpy_lt (by omega), cpy_lt (by omega), cpy_lt (by omega)]
  exact ⟨l0, ⟨k1, by have := hx.2; omega, (hx.1 a k2).trans k3, k4⟩, l3, l4, l5, l6, l7, l8, l9, l10⟩
def imJ (I : Nat → Nat → Int32) : Nat → Nat → Int32 := mvI53_44 (mjU (mjU (bcI13_1 I) 0 3 1) 43 9 1)
theorem image_RI {I : Nat → Nat → Int32} {X : MX} (h : RI I X) : RI (mvI53_44 (mjU (mjU (bcI13_1 I) 0 3 1) 43 9 1)) (cpP X 17 5 6) := by
  obtain ⟨⟨np, n9, nl, lw, h1⟩, ⟨b1, b2, b3, b4, h2⟩, h3, h4, h5⟩ := h
  have key : ∀ k, (k < 13 ∨ 18 < k) ∧ (k < 53 ∨ 61 < k) ∧ k ≠ 0 ∧ k ≠ 43 → (mvI53_44 (mjU (mjU (bcI13_1 I) 0 3 1) 43 9 1)) k = I k := fun k hk => by
    unfold mvI53_44 bcI13_1
    rw [mjR_ne (by omega), mjR_ne (by omega), mjR_ne (by omega), mjR_ne (by omega), mjR_ne (by omega), mjR_ne (by omega), mjR_ne (by omega), mjR_ne (by omega), mjR_ne (by omega), mjU_r (by omega), mjU_r (by omega), mjU_r (by omega), mjU_r (by omega), mjU_r (by omega), mjU_r (by omega), mjR_ne (by omega), mjR_ne (by omega), mjR_ne (by omega), mjR_ne (by omega)]
  refine ⟨⟨np, n9, nl, lw, h1.fr (fun k q => key k (by unfold tRw at q; omega)) (fun k q _ => key k (by omega)) (fun j => cpP_r (by decide)) ⟨fun _ _ => rfl, Nat.le_refl _⟩⟩, ⟨np, n9, nl, lw, h1.cp h2 rfl rfl rfl rfl rfl rfl rfl rfl rfl rfl rfl rfl rfl rfl rfl rfl rfl (fun k q _ => key k (by omega)) (fun j hj => cpP_k hj) ⟨fun _ _ => rfl, Nat.le_refl _⟩⟩, fun e he => ?_, ?_, fun k i hk hi => ?_⟩
  · obtain ⟨sz, so, hh, h6⟩ := h3 e he
    exact ⟨sz, so, hh, h6.fr (fun k q => key k (by unfold sRw at q; omega)) (fun k q _ => key k (by omega)) (fun j => cpP_r (by decide)) ⟨fun _ _ => rfl, Nat.le_refl _⟩⟩
  · exact ⟨rfl, Or.inr rfl⟩
  · rcases hk with rfl | rfl
    · rw [cpP_r (by decide)]; exact h5 5 i (Or.inl rfl) hi
    · rw [cpP_k hi]; exact h5 5 i (Or.inl rfl) hi
theorem restore_RI {I : Nat → Nat → Int32} {X : MX} (h : RI I X) : RI (mvI44_53 (bcI1_13 I)) (cpP X 5 17 6) := by
  obtain ⟨⟨np, n9, nl, lw, h1⟩, ⟨b1, b2, b3, b4, h2⟩, h3, h4, h5⟩ := h
  have key : ∀ k, (k < 1 ∨ 6 < k) ∧ (k < 44 ∨ 52 < k) → (mvI44_53 (bcI1_13 I)) k = I k := fun k hk => by
    unfold mvI44_53 bcI1_13
    rw [mjR_ne (by omega), mjR_ne (by omega), mjR_ne (by omega), mjR_ne (by omega), mjR_ne (by omega), mjR_ne (by omega), mjR_ne (by omega), mjR_ne (by omega), mjR_ne (by omega), mjU_r (by omega), mjU_r (by omega), mjU_r (by omega), mjU_r (by omega), mjR_ne (by omega), mjR_ne (by omega), mjR_ne (by omega), mjR_ne (by omega)]
  refine ⟨⟨b1, b2, b3, b4, h2.cp h1 rfl rfl rfl rfl rfl rfl rfl rfl rfl rfl rfl rfl rfl rfl rfl rfl rfl (fun k q _ => key k (by omega)) (fun j hj => cpP_k hj) ⟨fun _ _ => rfl, Nat.le_refl _⟩⟩, ⟨b1, b2, b3, b4, h2.fr (fun k q => key k (by unfold tRw at q; omega)) (fun k q _ => key k (by omega)) (fun j => cpP_r (by decide)) ⟨fun _ _ => rfl, Nat.le_refl _⟩⟩, fun e he => ?_, ?_, fun k i hk hi => ?_⟩
  · obtain ⟨sz, so, hh, h6⟩ := h3 e he
    exact ⟨sz, so, hh, h6.fr (fun k q => key k (by unfold sRw at q; omega)) (fun k q _ => key k (by omega)) (fun j => cpP_r (by decide)) ⟨fun _ _ => rfl, Nat.le_refl _⟩⟩
  · exact h4
  · rcases hk with rfl | rfl
    · rw [cpP_k hi]; exact h5 17 i (Or.inr rfl) hi
    · rw [cpP_r (by decide)]; exact h5 17 i (Or.inr rfl) hi
theorem k_image (d : Nat) : CALL (d + 12) nyX11_image nyX12_image [.ref 0] [.ref 43] := fun I X hR _ => by
  have h1 := c_xImage (d + 11) (I := I) (X := X) (fun i hi => hR.2.2.2.2 5 i (Or.inl rfl) hi)
  have h2 := c_mImage (d + 11) (I := mjU (bcI13_1 I) 0 3 1) (X := cpP X 17 5 6)
  obtain ⟨nl, hn, h16, h44, _⟩ := tR_lk hR
  rw [show mjU (bcI13_1 I) 0 3 1 44 1 = I 1 6 from h44.trans h16.symm] at h2
  exact ⟨_, _, _, h1, _, _, h2, image_RI hR, grw.rf⟩
theorem k_restore (d : Nat) : CALL (d + 12) nyX11_restore nyX12_restore [.ref 0] [.ref 43] := fun I X hR _ => by
  obtain ⟨e, w⟩ := hR.2.2.2.1
  rcases w with w | w
  · exact ⟨_, _, X, c_xRest0 (d + 11) w, _, X, c_mRest0 (d + 11) (e.symm.trans w), hR, grw.rf⟩
  · obtain ⟨b1, b2, b3, b4, h2⟩ := hR.2.1
    have h1 := c_xRest1 (d + 11) (I := I) (X := X) w (fun i hi => hR.2.2.2.2 17 i (Or.inr rfl) hi)
    have h3 := c_mRest1 (d + 11) (I := bcI1_13 I) (X := cpP X 5 17 6) (e.symm.trans w)
    rw [show bcI1_13 I 53 1 = I 13 6 from h2.2.1.2.trans h2.2.1.1.symm] at h3
    exact ⟨_, _, _, h1, _, _, h3, restore_RI hR, grw.rf⟩
