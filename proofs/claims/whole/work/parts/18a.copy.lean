/-! copy -/
theorem copy_op {I : Nat → Nat → Int32} {X : MX} {k0 k1 n0 n1 s t m nx : Nat} {al : List (Option Value)} {st : List Value} {call : MCall} (h0 : (Nat.blt k0 (mjN (mjH I X)) && (mjT (mjH I X) k0).1 == 13) = true) (hn0 : (mjT (mjH I X) k0).2 = n0) (h1 : (Nat.blt k1 (mjN (mjH I X)) && (mjT (mjH I X) k1).1 == 13) = true) (hn1 : (mjT (mjH I X) k1).2 = n1) (hs : s + m ≤ n0) (ht : t + m ≤ n1) (b0 : n0 < 2 ^ 31) (b1 : n1 < 2 ^ 31) (hst : Nat.ble (st.map fun v => v.category).sum 8 = true) :
    mjcopy nx call (al, .int (nI m) :: .int (nI t) :: .ref k1 :: .int (nI s) :: .ref k0 :: st, mjH I X) = some (.inl (nx, (al, st, mjH (mjR I k1 (va_cpy (I k0) (I k1) s t m)) X))) := by
  unfold mjcopy
  dsimp only
  rw [h0, h1, hst, hn0, hn1, nI_clamp (by omega), nI_clamp (by omega), nI_clamp (by omega), decide_eq_true (nI_pos' (by omega)), decide_eq_true (nI_pos' (by omega)), decide_eq_true (nI_pos' (by omega)), Nat.ble_eq.mpr hs, Nat.ble_eq.mpr ht]
  rfl
theorem nI_subN {a b : Nat} (h : b ≤ a) (ha : a < 2 ^ 31) : nI a - nI b = nI (a - b) := by
  apply Int32.toInt_inj.mp
  rw [i32_sub (by rw [nI_toInt ha, nI_toInt (by omega)]; omega) (by rw [nI_toInt ha, nI_toInt (by omega)]; omega), nI_toInt ha, nI_toInt (by omega), nI_toInt (by omega)]
  omega
theorem cpy_0 {α : Type} {f g : Nat → α} {s t : Nat} : va_cpy f g s t 0 = g := by
  funext b
  unfold va_cpy
  rw [if_neg (by omega)]
theorem mjR_id {α : Type} {f : Nat → Nat → α} {k : Nat} : mjR f k (f k) = f := by
  funext a b
  unfold mjR
  by_cases h : a = k
  · rw [if_pos h, h]
  · rw [if_neg h]
theorem cpy_s {α : Type} {I : Nat → Nat → α} {f g : Nat → α} {k s t n : Nat} {v : α} (hv : v = f (s + n)) : mjU (mjR I k (va_cpy f g s t n)) k (t + n) v = mjR I k (va_cpy f g s t (n + 1)) := by
  funext a b
  unfold mjU mjR va_cpy
  by_cases h : a = k
  · rw [if_pos h, if_pos h, if_pos h]
    by_cases w : b = t + n
    · rw [if_pos w, if_pos (by omega), hv, show s + (b - t) = s + n by omega]
    · rw [if_neg w]
      by_cases w2 : t ≤ b ∧ b < t + n
      · rw [if_pos w2, if_pos (by omega)]
      · rw [if_neg w2, if_neg (by omega)]
  · rw [if_neg h, if_neg h, if_neg h]
def okC (sz : Nat) (i n : Int32) : Prop := 0 ≤ i.toInt ∧ 0 ≤ n.toInt ∧ i.toInt + n.toInt ≤ sz
theorem xHasPs_y {I : Nat → Nat → Int32} {e sz : Nat} {i n : Int32} (hz : I (27 + 2 * e) 2 = nI sz) (hs : sz ≤ 100) (h : okC sz i n) : xHasPs I e i n = 1 := by
  obtain ⟨h1, h2, h3⟩ := h
  have e0 : (0 : Int32).toInt = 0 := by decide
  unfold xHasPs
  rw [hz, if_neg (by rw [i32_lt, e0]; omega), if_neg (by rw [i32_lt, e0]; omega), if_neg (by rw [i32_lt, nI_toInt (by omega)]; omega), if_neg (by rw [i32_lt, i32_sub (by rw [nI_toInt (by omega)]; omega) (by rw [nI_toInt (by omega)]; omega), nI_toInt (by omega)]; omega)]
theorem xHasPs_n {I : Nat → Nat → Int32} {e sz : Nat} {i n : Int32} (hz : I (27 + 2 * e) 2 = nI sz) (hs : sz ≤ 100) (h : ¬ okC sz i n) : xHasPs I e i n = 0 := by
  have e0 : (0 : Int32).toInt = 0 := by decide
  unfold okC at h
  unfold xHasPs
  rw [hz]
  by_cases h1 : i < 0
  · rw [if_pos h1]
  rw [if_neg h1]
  by_cases h2 : n < 0
  · rw [if_pos h2]
  rw [if_neg h2]
  by_cases h3 : nI sz < n
  · rw [if_pos h3]
  rw [if_neg h3]
  rw [i32_lt, e0] at h1 h2
  rw [i32_lt, nI_toInt (by omega)] at h3
  rw [if_pos (by rw [i32_lt, i32_sub (by rw [nI_toInt (by omega)]; omega) (by rw [nI_toInt (by omega)]; omega), nI_toInt (by omega)]; omega)]
theorem okC_n {sz : Nat} {i n : Int32} (h : okC sz i n) : ∃ a b, i = nI a ∧ n = nI b ∧ a + b ≤ sz := by
  obtain ⟨h1, h2, h3⟩ := h
  have e0 : (0 : Int32).toInt = 0 := by decide
  obtain ⟨a, ha, rfl⟩ := nI_of (x := i) (by rw [i32_lt, e0]; omega)
  obtain ⟨b, hb, rfl⟩ := nI_of (x := n) (by rw [i32_lt, e0]; omega)
  rw [nI_toInt ha, nI_toInt hb] at h3
  exact ⟨a, b, rfl, rfl, by omega⟩
