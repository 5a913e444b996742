/-! keep keeps what holds -/
theorem shR.fr2 {I J : Nat → Nat → Int32} {X Y : MX} {e sz so hh : Nat} (h : shR I X e sz so hh) (r1 : J (27 + 2 * e) = I (27 + 2 * e)) (r2 : J (28 + 2 * e) = I (28 + 2 * e)) (c24 : J 24 e = I 24 e) (c66 : J 66 e = I 66 e) (c67 : J 67 e = I 67 e) (c68 : J 68 e = I 68 e) (c69 : ∀ j, j < 100 → J 69 (100 * e + j) = I 69 (100 * e + j)) (c71 : J 71 e = I 71 e) (c72 : J 72 e = I 72 e) (c73 : J 73 e = I 73 e)
    (q2 : ∀ k, 75 ≤ k → k < X.2.2.2.1 + 75 → J k = I k) (hP : Y.1 25 e = X.1 25 e) (hx : xfr X Y) : shR J Y e sz so hh := by
  obtain ⟨g1, g2, g3, g4, g5, g6⟩ := h
  unfold shR
  rw [r1, r2, c24, c66, c67, c68, c71, c72, c73]
  refine ⟨g1, g2, g3, g4, fun j hj => by rw [c69 j hj]; exact g5 j hj, fun h1 => ?_⟩
  obtain ⟨a, kd, q1, ⟨k1, k2, k3, k4⟩, q3, q4, q5⟩ := g6 h1
  rw [hP]
  exact ⟨a, kd, q1, ⟨k1, by have := hx.2; omega, (hx.1 a k2).trans k3, k4⟩, by rw [q2 a k1 k2, q3], by rw [q2 a k1 k2, q4], q5⟩
theorem keep_RI0 {I : Nat → Nat → Int32} {X : MX} {e : Nat} (h : RI I X) (he : e < 8) : RI (mjU (mjU I 24 e 0) 66 e 0) X := by
  obtain ⟨⟨np, n9, nl, lw, h1⟩, ⟨b1, b2, b3, b4, h2⟩, h3, h4⟩ := h
  have key : ∀ k, k ≠ 24 → k ≠ 66 → mjU (mjU I 24 e 0) 66 e 0 k = I k := fun k q1 q2 => by rw [mjU_r q2, mjU_r q1]
  refine ⟨⟨np, n9, nl, lw, h1.fr (fun k q => key k (by unfold tRw at q; omega) (by unfold tRw at q; omega)) (fun k q _ => key k (by omega) (by omega)) (fun _ => rfl) xfr.rf⟩, ⟨b1, b2, b3, b4, h2.fr (fun k q => key k (by unfold tRw at q; omega) (by unfold tRw at q; omega)) (fun k q _ => key k (by omega) (by omega)) (fun _ => rfl) xfr.rf⟩, fun e2 he2 => ?_, h4⟩
  obtain ⟨sz, so, hh, h5⟩ := h3 e2 he2
  by_cases q : e2 = e
  · subst q
    obtain ⟨g1, g2, g3, g4, g5, g6⟩ := h5
    refine ⟨sz, so, 0, ?_⟩
    unfold shR
    rw [key (27 + 2 * e2) (by omega) (by omega), key (28 + 2 * e2) (by omega) (by omega), key 67 (by omega) (by omega), key 68 (by omega) (by omega), key 69 (by omega) (by omega)]
    refine ⟨g1, g2, ⟨?_, mjU_eq⟩, ⟨g4.1, g4.2.1, by omega⟩, g5, fun q => absurd q (by omega)⟩
    rw [mjU_r (by omega)]
    exact mjU_eq
  · exact ⟨sz, so, hh, h5.fr2 (key _ (by omega) (by omega)) (key _ (by omega) (by omega)) (by rw [mjU_r (by omega)]; exact mjU_ne2 q) (by rw [mjU_ne2 q, mjU_r (by omega)]) (by rw [key 67 (by omega) (by omega)]) (by rw [key 68 (by omega) (by omega)]) (fun j _ => by rw [key 69 (by omega) (by omega)]) (by rw [key 71 (by omega) (by omega)]) (by rw [key 72 (by omega) (by omega)]) (by rw [key 73 (by omega) (by omega)]) (fun k q _ => key k (by omega) (by omega)) rfl xfr.rf⟩
theorem keep_RI1 {I : Nat → Nat → Int32} {X : MX} {e i a kd : Nat} (h : RI I X) (he : e < 8) (hlk : lkK X a kd) (l0 : I a 0 = nI i) (l1 : I a 1 = I 49 i) (l4 : I 48 i = nI kd) : RI (mjU (mjU (mjU (mjU (mjU I 24 e 1) 66 e 1) 71 e (nI i)) 72 e (I 48 i)) 73 e (I 49 i)) (stP X 25 e a) := by
  obtain ⟨⟨np, n9, nl, lw, h1⟩, ⟨b1, b2, b3, b4, h2⟩, h3, h4⟩ := h
  generalize hJ : mjU (mjU (mjU (mjU (mjU I 24 e 1) 66 e 1) 71 e (nI i)) 72 e (I 48 i)) 73 e (I 49 i) = J
  have key : ∀ k, k ≠ 24 → k ≠ 66 → k ≠ 71 → k ≠ 72 → k ≠ 73 → J k = I k := fun k q1 q2 q3 q4 q5 => by rw [← hJ, mjU_r q5, mjU_r q4, mjU_r q3, mjU_r q2, mjU_r q1]
  have c24 : ∀ j, J 24 j = if j = e then 1 else I 24 j := fun j => by
    rw [← hJ, mjU_r (by omega), mjU_r (by omega), mjU_r (by omega), mjU_r (by omega)]
    unfold mjU
    rw [if_pos rfl]
  have c66 : ∀ j, J 66 j = if j = e then 1 else I 66 j := fun j => by
    rw [← hJ, mjU_r (by omega), mjU_r (by omega), mjU_r (by omega)]
    unfold mjU
    rw [if_pos rfl]
    split <;> rfl
  have c71 : ∀ j, J 71 j = if j = e then nI i else I 71 j := fun j => by
    rw [← hJ, mjU_r (by omega), mjU_r (by omega)]
    unfold mjU
    rw [if_pos rfl]
    split <;> rfl
  have c72 : ∀ j, J 72 j = if j = e then I 48 i else I 72 j := fun j => by
    rw [← hJ, mjU_r (by omega)]
    unfold mjU
    rw [if_pos rfl]
    split <;> rfl
  have c73 : ∀ j, J 73 j = if j = e then I 49 i else I 73 j := fun j => by
    rw [← hJ]
    unfold mjU
    rw [if_pos rfl]
    split <;> rfl
  have hP : ∀ k j, k ≠ 25 → (stP X 25 e a).1 k j = X.1 k j := fun k j q => mjU_ob q
  refine ⟨⟨np, n9, nl, lw, h1.fr (fun k q => key k (by unfold tRw at q; omega) (by unfold tRw at q; omega) (by unfold tRw at q; omega) (by unfold tRw at q; omega) (by unfold tRw at q; omega)) (fun k q _ => key k (by omega) (by omega) (by omega) (by omega) (by omega)) (fun j => hP _ j (by omega)) ⟨fun _ _ => rfl, Nat.le_refl _⟩⟩,
    ⟨b1, b2, b3, b4, h2.fr (fun k q => key k (by unfold tRw at q; omega) (by unfold tRw at q; omega) (by unfold tRw at q; omega) (by unfold tRw at q; omega) (by unfold tRw at q; omega)) (fun k q _ => key k (by omega) (by omega) (by omega) (by omega) (by omega)) (fun j => hP _ j (by omega)) ⟨fun _ _ => rfl, Nat.le_refl _⟩⟩, fun e2 he2 => ?_, ?_⟩
  · obtain ⟨sz, so, hh, h5⟩ := h3 e2 he2
    have k1 := key (27 + 2 * e2) (by omega) (by omega) (by omega) (by omega) (by omega)
    have k2 := key (28 + 2 * e2) (by omega) (by omega) (by omega) (by omega) (by omega)
    have k67 := key 67 (by omega) (by omega) (by omega) (by omega) (by omega)
    have k68 := key 68 (by omega) (by omega) (by omega) (by omega) (by omega)
    have k69 := key 69 (by omega) (by omega) (by omega) (by omega) (by omega)
    by_cases q : e2 = e
    · subst q
      obtain ⟨g1, g2, g3, g4, g5, g6⟩ := h5
      refine ⟨sz, so, 1, ?_⟩
      unfold shR
      rw [k1, k2, k67, k68, k69, c24, c66, c71, c72, c73, if_pos rfl, if_pos rfl, if_pos rfl, if_pos rfl, if_pos rfl]
      have ka := key a (by have := hlk.1; omega) (by have := hlk.1; omega) (by have := hlk.1; omega) (by have := hlk.1; omega) (by have := hlk.1; omega)
      exact ⟨g1, g2, ⟨rfl, rfl⟩, ⟨g4.1, g4.2.1, by omega⟩, g5, fun _ => ⟨a, kd, (mjU_eq : mjU X.1 25 e2 (some a) 25 e2 = some a), hlk, by rw [ka, l0], by rw [ka, l1], l4⟩⟩
    · exact ⟨sz, so, hh, h5.fr2 k1 k2 (by rw [c24, if_neg q]) (by rw [c66, if_neg q]) (by rw [k67]) (by rw [k68]) (fun j _ => by rw [k69]) (by rw [c71, if_neg q]) (by rw [c72, if_neg q]) (by rw [c73, if_neg q]) (fun k q _ => key k (by omega) (by omega) (by omega) (by omega) (by omega)) (show mjU X.1 25 e (some a) 25 e2 = X.1 25 e2 from mjU_ne2 q) ⟨fun _ _ => rfl, Nat.le_refl _⟩⟩
  · rw [key 0 (by omega) (by omega) (by omega) (by omega) (by omega), key 43 (by omega) (by omega) (by omega) (by omega) (by omega)]
    exact ⟨h4.1, fun k i hk hi => by rw [hP k i (by omega)]; exact h4.2 k i hk hi⟩
theorem k_keep (d : Nat) (q w k : Int32) : CALL (d + 12) nyX11_keep nyX12_keep [.ref 0, .int q, .int w, .int k] [.ref 43, .int q, .int w, .int k] := fun I X hR _ => by
  rcases shelf_cases q with ⟨e, he, rfl⟩ | ⟨h1, h2⟩
  · obtain ⟨nl, hn, h16, h44, hlk⟩ := tR_lk hR
    rcases q_cases 1 (by omega) w with ⟨j, hj, rfl, e1⟩ | ⟨e1, hj⟩
    · match j, hj with
      | 0, _ => exact ⟨_, _, X, c_xKeepB (d + 10) he, _, X, c_mKeepB (d + 10) he, keep_RI0 hR he, grw.rf⟩
      | 1, _ =>
        by_cases h : mIn k 0 (nI nl - 1) = 0
        · exact ⟨_, _, X, c_xKeepD (d + 10) he hn h16 h (by decide), _, X, c_mKeepD (d + 10) he h44 h, hR, grw.rf⟩
        · obtain ⟨i, hi, rfl⟩ := mIn_no h (by omega)
          obtain ⟨a, kd, wn, hP, hK, l0, l1, l2, l3, l4, hwn, l5, hdr⟩ := hlk i hi
          refine ⟨_, _, _, c_xKeepC (d + 10) he hn h16 hi hP hK, _, stP X 25 e a, c_mKeepC (d + 10) (I := mjU I 24 e 1) he hn h44 hi, keep_RI1 hR he hK l0 l1 l5, ⟨Nat.le_refl _, Nat.le_add_right _ _, Nat.le_add_right _ _, Nat.le_add_right _ _⟩⟩
    · have hw0 : w ≠ 0 := hj 0 (by omega)
      have hw1 : w ≠ 1 := hj 1 (by omega)
      by_cases h : mIn k 0 (nI nl - 1) = 0
      · exact ⟨_, _, X, c_xKeepD (d + 10) he hn h16 h hw0, _, X, c_mKeepE (d + 10) he e1, hR, grw.rf⟩
      · obtain ⟨i, hi, rfl⟩ := mIn_no h (by omega)
        obtain ⟨a, kd, wn, hP, hK, _⟩ := hlk i hi
        exact ⟨_, _, X, c_xKeepE (d + 10) he hn h16 hi hP hK hw0 hw1, _, X, c_mKeepE (d + 10) he e1, hR, grw.rf⟩
  · exact ⟨_, _, X, c_xKeepA (d + 10) h1, _, X, c_mKeepA (d + 10) h2, hR, grw.rf⟩
