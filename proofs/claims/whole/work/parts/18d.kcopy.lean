/-! copy keeps what holds -/
theorem copy_RI {I : Nat → Nat → Int32} {X : MX} {e1 e2 i j n : Nat} {J : Nat → Nat → Int32} (h : RI I X) (he1 : e1 < 8) (he2 : e2 < 8) (g1 : i + n ≤ 100) (g2 : j + n ≤ 100) (key : ∀ k, k ≠ 28 + 2 * e2 → k ≠ 69 → k ≠ 70 → J k = I k) (k1 : J (28 + 2 * e2) = va_cpy (I (28 + 2 * e1)) (I (28 + 2 * e2)) i j n) (k2 : J 69 = va_cpy (I 69) (I 69) (100 * e1 + i) (100 * e2 + j) n) : RI J X := by
  obtain ⟨⟨np, n9, nl, lw, h1⟩, ⟨b1, b2, b3, b4, h2⟩, h3, h4⟩ := h
  obtain ⟨sz1, so1, hh1, v1⟩ := h3 e1 he1
  have v1 := v1.2.2.2.2.1
  refine ⟨⟨np, n9, nl, lw, h1.fr (fun k q => key k (by unfold tRw at q; omega) (by unfold tRw at q; omega) (by unfold tRw at q; omega)) (fun k q _ => key k (by omega) (by omega) (by omega)) (fun _ => rfl) xfr.rf⟩, ⟨b1, b2, b3, b4, h2.fr (fun k q => key k (by unfold tRw at q; omega) (by unfold tRw at q; omega) (by unfold tRw at q; omega)) (fun k q _ => key k (by omega) (by omega) (by omega)) (fun _ => rfl) xfr.rf⟩, fun e he => ?_, ?_⟩
  · obtain ⟨sz, so, hh, h5⟩ := h3 e he
    by_cases q : e = e2
    · subst q
      obtain ⟨g1, g2, g3, g4, g5, g6⟩ := h5
      refine ⟨sz, so, hh, ?_⟩
      unfold shR
      rw [key (27 + 2 * e) (by omega) (by omega) (by omega), key 24 (by omega) (by omega) (by omega), key 66 (by omega) (by omega) (by omega), key 67 (by omega) (by omega) (by omega), key 68 (by omega) (by omega) (by omega), key 71 (by omega) (by omega) (by omega), key 72 (by omega) (by omega) (by omega), key 73 (by omega) (by omega) (by omega)]
      refine ⟨g1, g2, g3, g4, fun b hb => ?_, fun w => ?_⟩
      · rw [k1, k2]
        unfold va_cpy
        by_cases w : j ≤ b ∧ b < j + n
        · rw [if_pos w, if_pos (by omega), v1 _ (by omega), show 100 * e1 + (i + (b - j)) = 100 * e1 + i + (100 * e + b - (100 * e + j)) by omega]
        · rw [if_neg w, if_neg (by omega)]
          exact g5 b hb
      · obtain ⟨a, kd, q1, q2, q3, q4, q5⟩ := g6 w
        have ka := key a (by have := q2.1; omega) (by have := q2.1; omega) (by have := q2.1; omega)
        exact ⟨a, kd, q1, q2, by rw [ka, q3], by rw [ka, q4], q5⟩
    · exact ⟨sz, so, hh, h5.fr2 (key _ (by omega) (by omega) (by omega)) (key _ (by omega) (by omega) (by omega)) (by rw [key 24 (by omega) (by omega) (by omega)]) (by rw [key 66 (by omega) (by omega) (by omega)]) (by rw [key 67 (by omega) (by omega) (by omega)]) (by rw [key 68 (by omega) (by omega) (by omega)]) (fun b hb => by rw [k2]; unfold va_cpy; rw [if_neg (by omega)]) (by rw [key 71 (by omega) (by omega) (by omega)]) (by rw [key 72 (by omega) (by omega) (by omega)]) (by rw [key 73 (by omega) (by omega) (by omega)]) (fun k q _ => key k (by omega) (by omega) (by omega)) rfl xfr.rf⟩
  · rw [key 0 (by omega) (by omega) (by omega), key 43 (by omega) (by omega) (by omega)]
    exact h4
theorem k_copy (d : Nat) (p i q j n : Int32) : CALL (d + 12) nyX11_copy nyX12_copy [.ref 0, .int p, .int i, .int q, .int j, .int n] [.ref 43, .int p, .int i, .int q, .int j, .int n] := fun I X hR _ => by
  rcases shelf_cases p with ⟨e1, he1, rfl⟩ | ⟨w1, w2⟩
  · rcases shelf_cases q with ⟨e2, he2, rfl⟩ | ⟨w1, w2⟩
    · obtain ⟨sz1, so1, hh1, ⟨z1, z2⟩, ⟨s1, s2⟩, ⟨g3, g4⟩, ⟨g5, g6, g7⟩, g8, g9⟩ := hR.sh he1
      obtain ⟨sz2, so2, hh2, ⟨y1, y2⟩, ⟨t1, t2⟩, ⟨f3, f4⟩, ⟨f5, f6, f7⟩, f8, f9⟩ := hR.sh he2
      match hh1, g7, hh2, f7 with
      | 0, _, 0, _ => exact ⟨_, _, X, c_xCp00 (d + 8) he1 he2 g3 f3, _, X, c_mCp00 (d + 8) he1 he2 g4 f4, hR, grw.rf⟩
      | 0, _, 1, _ => exact ⟨_, _, X, c_xCp01 (d + 8) he1 he2 g3 f3, _, X, c_mCp01 (d + 8) he1 he2 g4 f4, hR, grw.rf⟩
      | 0, _, 2, _ => exact ⟨_, _, X, c_xCp02 (d + 8) he1 he2 g3 f3, _, X, c_mCp02 (d + 8) he1 he2 g4 f4, hR, grw.rf⟩
      | 1, _, 0, _ => exact ⟨_, _, X, c_xCp10 (d + 8) he1 he2 g3 f3, _, X, c_mCp10 (d + 8) he1 he2 g4 f4, hR, grw.rf⟩
      | 1, _, 1, _ => exact ⟨_, _, X, c_xCp11 (d + 8) he1 he2 g3 f3, _, X, c_mCp11 (d + 8) he1 he2 g4 f4, hR, grw.rf⟩
      | 1, _, 2, _ => exact ⟨_, _, X, c_xCp12 (d + 8) he1 he2 g3 f3, _, X, c_mCp12 (d + 8) he1 he2 g4 f4, hR, grw.rf⟩
      | 2, _, 0, _ => exact ⟨_, _, X, c_xCp20 (d + 8) he1 he2 g3 f3, _, X, c_mCp20 (d + 8) he1 he2 g4 f4, hR, grw.rf⟩
      | 2, _, 1, _ => exact ⟨_, _, X, c_xCp21 (d + 8) he1 he2 g3 f3, _, X, c_mCp21 (d + 8) he1 he2 g4 f4, hR, grw.rf⟩
      | 2, _, 2, _ =>
        by_cases hso : so1 = so2
        · have w1 : I (27 + 2 * e1) 1 = I (27 + 2 * e2) 1 := by rw [s1, t1, hso]
          have w2 : I 67 e1 = I 67 e2 := by rw [s2, t2, hso]
          by_cases h1 : okC sz1 i n
          · by_cases h2 : okC sz2 j n
            · obtain ⟨i9, n9, rfl, rfl, k1⟩ := okC_n h1
              obtain ⟨j9, m9, rfl, e9, k2⟩ := okC_n h2
              have e10 : n9 = m9 := (nI_eq (by omega) (by omega)).mp e9
              subst e10
              refine ⟨_, _, X, c_xCpY (d + 8) he1 he2 g3 f3 w1 z1 g5 y1 f5 k1 k2 h1 h2, _, X, c_mCpY (d + 8) he1 he2 ?_ ?_ ?_ ?_ g5 ?_ f5 k1 k2, ?_, grw.rf⟩
              · rw [mjR_ne (by omega)]; exact g4
              · rw [mjR_ne (by omega)]; exact f4
              · rw [mjR_ne (by omega)]; exact w2
              · rw [mjR_ne (by omega)]; exact z2
              · rw [mjR_ne (by omega)]; exact y2
              · refine copy_RI hR he1 he2 (show i9 + n9 ≤ 100 by omega) (show j9 + n9 ≤ 100 by omega) (fun k q1 q2 q3 => ?_) ?_ ?_
                · rw [mjR_ne q2, mjR_ne q3, mjR_ne q1]
                · rw [mjR_ne (by omega), mjR_ne (by omega), mjR_eq]
                · rw [mjR_eq, mjR_ne (by omega)]
            · exact ⟨_, _, X, c_xCpN2 (d + 8) he1 he2 g3 f3 w1 z1 g5 y1 f5 h1 h2, _, X, c_mCpN (d + 8) he1 he2 g4 f4 w2 z2 g5 y2 f5 (fun w => h2 w.2), hR, grw.rf⟩
          · exact ⟨_, _, X, c_xCpN1 (d + 8) he1 he2 g3 f3 w1 z1 g5 y1 f5 h1, _, X, c_mCpN (d + 8) he1 he2 g4 f4 w2 z2 g5 y2 f5 (fun w => h1 w.1), hR, grw.rf⟩
        · exact ⟨_, _, X, c_xCpS (d + 8) he1 he2 g3 f3 (by rw [s1, t1, nI_eq (by omega) (by omega)]; exact hso), _, X, c_mCpS (d + 8) he1 he2 g4 f4 (by rw [s2, t2, nI_eq (by omega) (by omega)]; exact hso), hR, grw.rf⟩
    · exact ⟨_, _, X, c_xCpB (d + 8) he1 w1, _, X, c_mCpB (d + 8) he1 w2, hR, grw.rf⟩
  · exact ⟨_, _, X, c_xCpA (d + 8) w1, _, X, c_mCpA (d + 8) w2, hR, grw.rf⟩
