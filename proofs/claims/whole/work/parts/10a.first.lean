/-! the first minute of which something is so -/
def fst9 (p : Nat → Bool) : Nat → Nat → Nat
  | 0, m => m
  | n + 1, m => bif p m then m else fst9 p n (m + 1)
theorem fst9_spec (p : Nat → Bool) : ∀ n m, m ≤ fst9 p n m ∧ fst9 p n m ≤ m + n ∧ (∀ j, m ≤ j → j < fst9 p n m → p j = false) ∧ (fst9 p n m < m + n → p (fst9 p n m) = true)
  | 0, m => ⟨Nat.le_refl _, Nat.le_refl _, fun j h1 h2 => absurd h2 (Nat.not_lt.mpr h1), fun h => absurd h (Nat.lt_irrefl _)⟩
  | n + 1, m => by
    obtain ⟨h1, h2, h3, h4⟩ := fst9_spec p n (m + 1)
    rw [fst9]
    cases h : p m
    · dsimp only [cond_false]
      refine ⟨by omega, by omega, fun j q1 q2 => ?_, fun q => h4 (by omega)⟩
      by_cases e : j = m
      · rw [e, h]
      · exact h3 j (by omega) q2
    · dsimp only [cond_true]
      exact ⟨Nat.le_refl _, Nat.le_add_right _ _, fun j q1 q2 => absurd q2 (Nat.not_lt.mpr q1), fun _ => h⟩
theorem fst9_eq {p : Nat → Bool} {n m y : Nat} (h1 : m ≤ y) (h2 : y ≤ m + n) (h3 : ∀ j, m ≤ j → j < y → p j = false) (h4 : y < m + n → p y = true) : fst9 p n m = y := by
  obtain ⟨g1, g2, g3, g4⟩ := fst9_spec p n m
  rcases Nat.lt_trichotomy (fst9 p n m) y with q | q | q
  · have e1 := g4 (by omega)
    rw [h3 _ g1 q] at e1
    cases e1
  · exact q
  · have e1 := h4 (by omega)
    rw [g3 _ h1 q] at e1
    cases e1
/-! what is thought, in whole numbers -/
def thoZ (d l m : Int) : Int := m + ((m - l) * d).tdiv 60
theorem tdiv60 (x : Int) : x.tdiv 60 = if 0 ≤ x then x / 60 else -((-x) / 60) := by
  split
  · rename_i h
    rw [Int.tdiv_eq_ediv_of_nonneg h]
  · rename_i h
    have h2 : x = -(-x) := by omega
    rw [h2, Int.neg_tdiv, Int.tdiv_eq_ediv_of_nonneg (by omega)]
    simp
theorem i32_div60 {a : Int32} : (a / 60).toInt = a.toInt.tdiv 60 := by
  rw [Int32.toInt_div]
  have h6 : (60 : Int32).toInt = 60 := by decide
  rw [h6]
  have h1 := Int32.le_toInt a
  have h2 := Int32.toInt_lt a
  rw [tdiv60]
  refine Int.bmod_eq_of_le ?_ ?_ <;> split <;> omega
theorem thoZ_eq {dr : Int32} {l m : Nat} (hd : -20 ≤ dr.toInt ∧ dr.toInt ≤ 20) (hl : l ≤ 1000) (hm : m ≤ 1000) : (mTho dr (nI l) (nI m)).toInt = thoZ dr.toInt l m := by
  have hlI : (nI l).toInt = (l : Int) := nI_toInt (by omega)
  have hmI : (nI m).toInt = (m : Int) := nI_toInt (by omega)
  have h1 : (nI m - nI l).toInt = (m : Int) - l := by rw [i32_sub (by omega) (by omega), hlI, hmI]
  have hb : -20000 ≤ ((m : Int) - l) * dr.toInt ∧ ((m : Int) - l) * dr.toInt ≤ 20000 := by
    have h3 : -1000 ≤ (m : Int) - l := by omega
    have h4 : (m : Int) - l ≤ 1000 := by omega
    generalize (m : Int) - l = x at h3 h4
    generalize dr.toInt = y at hd
    obtain ⟨h5, h6⟩ := hd
    constructor
    · rcases Int.le_total 0 x with q | q
      · have := Int.mul_le_mul_of_nonneg_left h5 q
        omega
      · have := Int.mul_le_mul_of_nonneg_left h6 (show 0 ≤ -x by omega)
        rw [Int.neg_mul, Int.neg_mul] at this
        omega
    · rcases Int.le_total 0 x with q | q
      · have := Int.mul_le_mul_of_nonneg_left h6 q
        omega
      · have := Int.mul_le_mul_of_nonneg_left h5 (show 0 ≤ -x by omega)
        rw [Int.neg_mul, Int.neg_mul] at this
        omega
  have h2 : ((nI m - nI l) * dr).toInt = ((m : Int) - l) * dr.toInt := by rw [i32_mul (by rw [h1]; omega) (by rw [h1]; omega), h1]
  have h3 : ((nI m - nI l) * dr / 60).toInt = (((m : Int) - l) * dr.toInt).tdiv 60 := by rw [i32_div60, h2]
  unfold mTho thoZ
  have hb2 : -20000 ≤ (((m : Int) - l) * dr.toInt).tdiv 60 ∧ (((m : Int) - l) * dr.toInt).tdiv 60 ≤ 20000 := by
    rw [tdiv60]
    split <;> omega
  rw [i32_add (by rw [h3, hmI]; omega) (by rw [h3, hmI]; omega), h3, hmI]
theorem thoZ_mono {d l m : Int} (hd : -20 ≤ d ∧ d ≤ 20) : thoZ d l m ≤ thoZ d l (m + 1) := by
  unfold thoZ
  have e : (m + 1 - l) * d = (m - l) * d + d := by
    rw [show m + 1 - l = (m - l) + 1 by omega, Int.add_mul, Int.one_mul]
  rw [e, tdiv60, tdiv60]
  generalize (m - l) * d = x
  split <;> split <;> omega
theorem tho_mono {dr : Int32} {l : Nat} (hd : -20 ≤ dr.toInt ∧ dr.toInt ≤ 20) (hl : l ≤ 1000) {T : Int32} : ∀ (k m : Nat), m + k ≤ 1000 → mTho dr (nI l) (nI (m + k)) < T → mTho dr (nI l) (nI m) < T
  | 0, m, _, h => h
  | k + 1, m, hk, h => by
    refine tho_mono hd hl k m (by omega) ?_
    rw [i32_lt, thoZ_eq hd hl (by omega)] at h ⊢
    have := thoZ_mono (l := l) (m := ((m + k : Nat) : Int)) hd
    have e : ((m + (k + 1) : Nat) : Int) = ((m + k : Nat) : Int) + 1 := by omega
    rw [e] at h
    omega
/-- from a minute on, the first at which it is thought to be T, or later -/
def fT (dr T : Int32) (l m : Nat) : Nat := fst9 (fun j => !(decide (mTho dr (nI l) (nI j) < T))) (720 - m) m
theorem fT_at {dr T : Int32} {l m y : Nat} (hd : -20 ≤ dr.toInt ∧ dr.toInt ≤ 20) (hl : l ≤ 1000) (h1 : m ≤ y) (h2 : y ≤ 720) (h3 : m < y → mTho dr (nI l) (nI (y - 1)) < T) (h4 : y < 720 → ¬ mTho dr (nI l) (nI y) < T) : fT dr T l m = y := by
  refine fst9_eq h1 (by omega) (fun j q1 q2 => ?_) (fun q => ?_)
  · have h5 := h3 (by omega)
    have h6 := tho_mono (T := T) hd hl (y - 1 - j) j (by omega) (by rw [show j + (y - 1 - j) = y - 1 by omega]; exact h5)
    rw [decide_eq_true h6]
    rfl
  · rw [decide_eq_false (h4 (by omega))]
    rfl
def xCh (law p : Int32) (m : Nat) : Nat := fst9 (fun j => !(decide (p < xPrice (nI j) law))) (720 - m) m
def xNp (row : Nat → Int32) (f : Int32) : Nat → Nat → Int32
  | 0, _ => 720
  | k + 1, i => if row i < f then xNp row f k (i + 1) else row i
