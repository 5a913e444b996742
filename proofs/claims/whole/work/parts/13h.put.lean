/-! put keeps what holds -/
theorem put_RI {I : Nat → Nat → Int32} {X : MX} {e j : Nat} {c : Int32} (h : RI I X) (he : e < 8) (hj : j < 100) : RI (mjU (mjU I (28 + 2 * e) j c) 69 (100 * e + j) c) X := by
  obtain ⟨⟨np, n9, nl, lw, h1⟩, ⟨b1, b2, b3, b4, h2⟩, h3, h4⟩ := h
  generalize hJ : mjU (mjU I (28 + 2 * e) j c) 69 (100 * e + j) c = J
  have key : ∀ k, k ≠ 28 + 2 * e → k ≠ 69 → J k = I k := fun k q1 q2 => by rw [← hJ, mjU_r q2, mjU_r q1]
  have c28 : ∀ i, J (28 + 2 * e) i = if i = j then c else I (28 + 2 * e) i := fun i => by
    rw [← hJ, mjU_r (by omega)]
    unfold mjU
    rw [if_pos rfl]
  have c69 : ∀ i, J 69 i = if i = 100 * e + j then c else I 69 i := fun i => by
    rw [← hJ]
    unfold mjU
    rw [if_pos rfl]
    split
    · rfl
    · rw [if_neg (by omega)]
  refine ⟨⟨np, n9, nl, lw, h1.fr (fun k q => key k (by unfold tRw at q; omega) (by unfold tRw at q; omega)) (fun k q _ => key k (by omega) (by omega)) (fun _ => rfl) xfr.rf⟩, ⟨b1, b2, b3, b4, h2.fr (fun k q => key k (by unfold tRw at q; omega) (by unfold tRw at q; omega)) (fun k q _ => key k (by omega) (by omega)) (fun _ => rfl) xfr.rf⟩, fun e2 he2 => ?_, ?_⟩
  · obtain ⟨sz, so, hh, h5⟩ := h3 e2 he2
    by_cases q : e2 = e
    · subst q
      obtain ⟨g1, g2, g3, g4, g5, g6⟩ := h5
      refine ⟨sz, so, hh, ?_⟩
      unfold shR
      rw [key (27 + 2 * e2) (by omega) (by omega), key 24 (by omega) (by omega), key 66 (by omega) (by omega), key 67 (by omega) (by omega), key 68 (by omega) (by omega), key 71 (by omega) (by omega), key 72 (by omega) (by omega), key 73 (by omega) (by omega)]
      refine ⟨g1, g2, g3, g4, fun i hi => ?_, fun w => ?_⟩
      · rw [c28, c69]
        by_cases w : i = j
        · rw [if_pos w, if_pos (by omega)]
        · rw [if_neg w, if_neg (by omega)]
          exact g5 i hi
      · obtain ⟨a, kd, q1, q2, q3, q4, q5⟩ := g6 w
        have ka := key a (by have := q2.1; omega) (by have := q2.1; omega)
        exact ⟨a, kd, q1, q2, by rw [ka, q3], by rw [ka, q4], q5⟩
    · exact ⟨sz, so, hh, h5.fr2 (key _ (by omega) (by omega)) (key _ (by omega) (by omega)) (by rw [key 24 (by omega) (by omega)]) (by rw [key 66 (by omega) (by omega)]) (by rw [key 67 (by omega) (by omega)]) (by rw [key 68 (by omega) (by omega)]) (fun i hi => by rw [c69, if_neg (by omega)]) (by rw [key 71 (by omega) (by omega)]) (by rw [key 72 (by omega) (by omega)]) (by rw [key 73 (by omega) (by omega)]) (fun k q _ => key k (by omega) (by omega)) rfl xfr.rf⟩
  · rw [key 0 (by omega) (by omega), key 43 (by omega) (by omega)]
    exact h4
theorem k_put (d : Nat) (q w v : Int32) : CALL (d + 12) nyX11_put nyX12_put [.ref 0, .int q, .int w, .int v] [.ref 43, .int q, .int w, .int v] := fun I X hR _ => by
  rcases shelf_cases q with ⟨e, he, rfl⟩ | ⟨h1, h2⟩
  · obtain ⟨sz, so, hh, ⟨z1, z2⟩, ⟨s1, s2⟩, ⟨g3, g4⟩, ⟨g5, g6, g7⟩, g8, g9⟩ := hR.sh he
    match hh, g7 with
    | 0, _ => exact ⟨_, _, X, c_xPutB (d + 9) he g3, _, X, c_mPutB (d + 10) he g4, hR, grw.rf⟩
    | 1, _ => exact ⟨_, _, X, c_xPutC (d + 9) he g3, _, X, c_mPutC (d + 10) he g4, hR, grw.rf⟩
    | 2, _ =>
      by_cases h : mIn w 0 (nI sz - 1) = 0
      · exact ⟨_, _, X, c_xPutD (d + 9) he g3 z1 g5 h, _, X, c_mPutD (d + 10) he g4 z2 g5 h, hR, grw.rf⟩
      · obtain ⟨j, hj, rfl⟩ := mIn_no h (by omega)
        have hm := c_mPutE (d + 10) (v := v) (I := mjU I (28 + 2 * e) j (cvS (I (27 + 2 * e) 1) v)) (X := X) he (by rw [mjU_r (by omega)]; exact g4) (by rw [mjU_r (by omega)]; exact z2) g5 hj
        rw [show mjU I (28 + 2 * e) j (cvS (I (27 + 2 * e) 1) v) 67 e = I (27 + 2 * e) 1 by rw [mjU_r (by omega), s1, s2]] at hm
        exact ⟨_, _, X, c_xPutE (d + 9) he g3 z1 g5 hj, _, X, hm, put_RI hR he (by omega), grw.rf⟩
  · exact ⟨_, _, X, c_xPutA (d + 9) h1, _, X, c_mPutA (d + 10) h2, hR, grw.rf⟩
