/-! row keeps what holds -/
theorem zf_r {I : Nat → Nat → Int32} {k lo n a : Nat} (h : a ≠ k) : zf I k lo n a = I a := funext fun _ => if_neg h
theorem zf_k {I : Nat → Nat → Int32} {k lo n b : Nat} : zf I k lo n k b = if lo ≤ b ∧ b < lo + n then 0 else I k b := if_pos rfl
theorem mjU_k {α : Type} {f : Nat → Nat → α} {k j b : Nat} {v : α} : mjU f k j v k b = if b = j then v else f k b := if_pos rfl
def rowJ (I : Nat → Nat → Int32) (e so sz : Nat) : Nat → Nat → Int32 := zf (mjU (mjU (mjU (mjU (zf (mjU (mjU I (27 + 2 * e) 1 (nI so)) (27 + 2 * e) 2 (nI sz)) (28 + 2 * e) 0 100) 24 e 2) 66 e 2) 67 e (nI so)) 68 e (nI sz)) 69 (100 * e) 100
theorem row_RI {I : Nat → Nat → Int32} {X : MX} {e so sz : Nat} (h : RI I X) (he : e < 8) (hso : so < 3) (hz : sz ≤ 100) : RI (rowJ I e so sz) X := by
  obtain ⟨⟨np, n9, nl, lw, h1⟩, ⟨b1, b2, b3, b4, h2⟩, h3, h4⟩ := h
  have key : ∀ k, k ≠ 27 + 2 * e → k ≠ 28 + 2 * e → k ≠ 24 → k ≠ 66 → k ≠ 67 → k ≠ 68 → k ≠ 69 → rowJ I e so sz k = I k := fun k q1 q2 q3 q4 q5 q6 q7 => by
    unfold rowJ
    rw [zf_r q7, mjU_r q6, mjU_r q5, mjU_r q4, mjU_r q3, zf_r q2, mjU_r q1, mjU_r q1]
  have c27 : rowJ I e so sz (27 + 2 * e) 2 = nI sz ∧ rowJ I e so sz (27 + 2 * e) 1 = nI so := by
    unfold rowJ
    rw [zf_r (by omega), mjU_r (by omega), mjU_r (by omega), mjU_r (by omega), mjU_r (by omega), zf_r (by omega)]
    refine ⟨mjU_eq, ?_⟩
    rw [mjU_ne2 (by omega)]
    exact mjU_eq
  have c28 : ∀ j, j < 100 → rowJ I e so sz (28 + 2 * e) j = 0 := fun j hj => by
    unfold rowJ
    rw [zf_r (by omega), mjU_r (by omega), mjU_r (by omega), mjU_r (by omega), mjU_r (by omega), zf_k, if_pos (by omega)]
  have c24 : ∀ j, rowJ I e so sz 24 j = if j = e then 2 else I 24 j := fun j => by
    unfold rowJ
    rw [zf_r (by omega), mjU_r (by omega), mjU_r (by omega), mjU_r (by omega), mjU_k, zf_r (by omega), mjU_r (by omega), mjU_r (by omega)]
  have c66 : ∀ j, rowJ I e so sz 66 j = if j = e then 2 else I 66 j := fun j => by
    unfold rowJ
    rw [zf_r (by omega), mjU_r (by omega), mjU_r (by omega), mjU_k, mjU_r (by omega), zf_r (by omega), mjU_r (by omega), mjU_r (by omega)]
  have c67 : ∀ j, rowJ I e so sz 67 j = if j = e then nI so else I 67 j := fun j => by
    unfold rowJ
    rw [zf_r (by omega), mjU_r (by omega), mjU_k, mjU_r (by omega), mjU_r (by omega), zf_r (by omega), mjU_r (by omega), mjU_r (by omega)]
  have c68 : ∀ j, rowJ I e so sz 68 j = if j = e then nI sz else I 68 j := fun j => by
    unfold rowJ
    rw [zf_r (by omega), mjU_k, mjU_r (by omega), mjU_r (by omega), mjU_r (by omega), zf_r (by omega), mjU_r (by omega), mjU_r (by omega)]
  have c69 : ∀ b, rowJ I e so sz 69 b = if 100 * e ≤ b ∧ b < 100 * e + 100 then 0 else I 69 b := fun b => by
    unfold rowJ
    rw [zf_k, mjU_r (by omega), mjU_r (by omega), mjU_r (by omega), mjU_r (by omega), zf_r (by omega), mjU_r (by omega), mjU_r (by omega)]
  generalize rowJ I e so sz = J at key c27 c28 c24 c66 c67 c68 c69
  have keyT : ∀ t m, (t = 1 ∧ m = 44 ∨ t = 13 ∧ m = 53) → ∀ k, tRw t m k → J k = I k := fun t m ht k q => by
    unfold tRw at q
    exact key k (by omega) (by omega) (by omega) (by omega) (by omega) (by omega) (by omega)
  have keyH : ∀ k, 75 ≤ k → k < X.2.2.2.1 + 75 → J k = I k := fun k q _ => key k (by omega) (by omega) (by omega) (by omega) (by omega) (by omega) (by omega)
  have k71 := key 71 (by omega) (by omega) (by omega) (by omega) (by omega) (by omega) (by omega)
  have k72 := key 72 (by omega) (by omega) (by omega) (by omega) (by omega) (by omega) (by omega)
  have k73 := key 73 (by omega) (by omega) (by omega) (by omega) (by omega) (by omega) (by omega)
  refine ⟨⟨np, n9, nl, lw, h1.fr (keyT 1 44 (Or.inl ⟨rfl, rfl⟩)) keyH (fun _ => rfl) xfr.rf⟩, ⟨b1, b2, b3, b4, h2.fr (keyT 13 53 (Or.inr ⟨rfl, rfl⟩)) keyH (fun _ => rfl) xfr.rf⟩, fun e2 he2 => ?_, ?_⟩
  · by_cases q : e2 = e
    · subst q
      refine ⟨sz, so, 2, ?_⟩
      unfold shR
      rw [c24, c66, c67, c68, if_pos rfl, if_pos rfl, if_pos rfl, if_pos rfl]
      exact ⟨⟨c27.1, rfl⟩, ⟨c27.2, rfl⟩, ⟨rfl, rfl⟩, ⟨hz, hso, by omega⟩, fun j hj => by rw [c28 j hj, c69, if_pos (by omega)], fun w => absurd w (by omega)⟩
    · obtain ⟨sz2, so2, hh, h5⟩ := h3 e2 he2
      exact ⟨sz2, so2, hh, h5.fr2 (key _ (by omega) (by omega) (by omega) (by omega) (by omega) (by omega) (by omega)) (key _ (by omega) (by omega) (by omega) (by omega) (by omega) (by omega) (by omega)) (by rw [c24, if_neg q]) (by rw [c66, if_neg q]) (by rw [c67, if_neg q]) (by rw [c68, if_neg q]) (fun j hj => by rw [c69, if_neg (by omega)]) (by rw [k71]) (by rw [k72]) (by rw [k73]) keyH rfl xfr.rf⟩
  · rw [key 0 (by omega) (by omega) (by omega) (by omega) (by omega) (by omega) (by omega), key 43 (by omega) (by omega) (by omega) (by omega) (by omega) (by omega) (by omega)]
    exact h4
theorem k_row (d : Nat) (q s n : Int32) : CALL (d + 12) nyX11_row nyX12_row [.ref 0, .int q, .int s, .int n] [.ref 43, .int q, .int s, .int n] := fun I X hR _ => by
  rcases shelf_cases q with ⟨e, he, rfl⟩ | ⟨h1, h2⟩
  · rcases q_cases 2 (by omega) s with ⟨so, hso, rfl, _⟩ | ⟨hq, _⟩
    · have hso : so < 3 := by omega
      by_cases hn : n ≤ 100
      · by_cases h0 : 0 ≤ n
        · obtain ⟨sz, hz, rfl⟩ := nI_of2 (n := 100) (M := 100) (by decide) (Int32.not_lt.mpr h0) hn
          exact ⟨_, _, X, c_xRowE (d + 9) he hso hz, _, X, c_mRowE (d + 10) he hso hz, row_RI hR he hso hz, grw.rf⟩
        · exact ⟨_, _, X, c_xRowD (d + 10) he hso hn h0, _, X, c_mRowD (d + 10) he hso hn h0, hR, grw.rf⟩
      · exact ⟨_, _, X, c_xRowC (d + 10) he hso hn, _, X, c_mRowC (d + 10) he hso hn, hR, grw.rf⟩
    · exact ⟨_, _, X, c_xRowB (d + 10) he hq, _, X, c_mRowB (d + 10) he hq, hR, grw.rf⟩
  · exact ⟨_, _, X, c_xRowA (d + 10) h1, _, X, c_mRowA (d + 10) h2, hR, grw.rf⟩
