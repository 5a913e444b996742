/-! what a day is: minute by minute -/
def eqO (s : Nat → Nat → Bool) (I J : Nat → Nat → Int32) : Prop := ∀ k j, s k j = false → J k j = I k j
theorem eqO.rf {s : Nat → Nat → Bool} {I : Nat → Nat → Int32} : eqO s I I := fun _ _ _ => rfl
theorem eqO.trans {s : Nat → Nat → Bool} {I J L : Nat → Nat → Int32} (h : eqO s I J) (h2 : eqO s J L) : eqO s I L := fun k j q => (h2 k j q).trans (h k j q)
theorem eqO.put {s : Nat → Nat → Bool} {I J : Nat → Nat → Int32} {a b : Nat} {v : Int32} (h : eqO s I J) (hs : s a b = true) : eqO s I (mjU J a b v) := fun k j q => by
  unfold mjU
  by_cases e : k = a
  · subst e
    rw [if_pos rfl]
    by_cases e2 : j = b
    · subst e2
      rw [hs] at q
      cases q
    · rw [if_neg e2]
      exact h k j q
  · rw [if_neg e]
    exact h k j q
theorem eqO.mono {s t : Nat → Nat → Bool} {I J : Nat → Nat → Int32} (h : eqO s I J) (hst : ∀ k j, s k j = true → t k j = true) : eqO t I J := fun k j q => h k j (by
  cases e : s k j
  · rfl
  · rw [hst k j e] at q
    cases q)
theorem eqO.row {s : Nat → Nat → Bool} {I J : Nat → Nat → Int32} (h : eqO s I J) {k : Nat} (hk : ∀ j, s k j = false) : J k = I k := funext fun j => h k j (hk j)
/-- is one of the first n minutes of the row this one -/
def mPl (row : Nat → Int32) (m : Int32) : Nat → Int32
  | 0 => 0
  | k + 1 => if mPl row m k ≠ 0 then 1 else if row k ≠ m then 0 else 1
def wkW (as f dr law aim : Int32) (row : Nat → Int32) (np m l : Nat) (once : Int32) : Bool :=
  bif (decide (mClock as ≠ 0) && decide (once = 0)) && !(decide (mTho dr (nI l) (nI m) < aim - 5 * f)) then (!(decide (as = 3) || decide (as = 7)) || !(decide (f < mPrice law (nI m))))
  else decide (as = 6) && decide (mPl row (nI m) np ≠ 0)
def wkG (as f dr aim : Int32) (m l : Nat) : Bool := decide (nI m = 719) || !(decide (mTho dr (nI l) (nI m) < aim - mEarly as f))
abbrev wkA : Type := Int32 × List Nat
def wk (as f dr law aim : Int32) (row : Nat → Int32) (np : Nat) : Nat → Nat → Nat → Int32 → wkA → Nat × Nat × wkA
  | 0, m, l, _, a => (m, l, a)
  | n + 1, m, l, once, a => bif wkW as f dr law aim row np m l once then
      (bif wkG as f dr aim m m then (m, m, (a.1 + mPays as (mPrice law (nI m)), a.2 ++ [m])) else wk as f dr law aim row np n (m + 1) m 1 (a.1 + mPays as (mPrice law (nI m)), a.2 ++ [m]))
      else (bif wkG as f dr aim m l then (m, l, a) else wk as f dr law aim row np n (m + 1) l once a)
theorem wk_len {as f dr law aim : Int32} {row : Nat → Int32} {np : Nat} : ∀ (n m l : Nat) (once : Int32) (a : wkA), a.2.length ≤ (wk as f dr law aim row np n m l once a).2.2.2.length := by
  intro n
  induction n with
  | zero => intro m l once a; exact Nat.le_refl _
  | succ n ih =>
    intro m l once a
    rw [wk]
    cases wkW as f dr law aim row np m l once
    · cases wkG as f dr aim m l
      · exact ih _ _ _ _
      · exact Nat.le_refl _
    · cases wkG as f dr aim m m
      · refine Nat.le_trans ?_ (ih _ _ _ _)
        simp
      · simp
theorem wk_min {as f dr law aim : Int32} {row : Nat → Int32} {np : Nat} : ∀ (n m l : Nat) (once : Int32) (a : wkA), m ≤ (wk as f dr law aim row np n m l once a).1 ∧ (wk as f dr law aim row np n m l once a).1 ≤ m + n := by
  intro n
  induction n with
  | zero => intro m l once a; exact ⟨Nat.le_refl _, Nat.le_refl _⟩
  | succ n ih =>
    intro m l once a
    rw [wk]
    cases wkW as f dr law aim row np m l once
    · cases wkG as f dr aim m l
      · dsimp only [cond_true, cond_false]
        have := ih (m + 1) l once a
        exact ⟨by omega, by omega⟩
      · exact ⟨Nat.le_refl _, Nat.le_add_right _ _⟩
    · cases wkG as f dr aim m m
      · dsimp only [cond_true, cond_false]
        have := ih (m + 1) m 1 (a.1 + mPays as (mPrice law (nI m)), a.2 ++ [m])
        exact ⟨by omega, by omega⟩
      · exact ⟨Nat.le_refl _, Nat.le_add_right _ _⟩
/-- the looks of the reference's day so far -/
def mSc (I : Nat → Nat → Int32) (a : wkA) : Prop := I 43 19 = a.1 ∧ I 43 20 = nI a.2.length ∧ ∀ i, i < a.2.length → I 62 i = nI (a.2.getD i 0)
def scw (k j : Nat) : Bool := (k == 43 && (j == 19 || j == 20)) || k == 62
/-! a day: work by work; free, the latest look, what was looked and paid, late, pence, idle, when it came -/
abbrev dyT : Type := Nat × Nat × wkA × Int32 × Int32 × Int32 × (Nat → Int32)
def dyR (as fg dr law : Int32) (atr wl row : Nat → Int32) (np k : Nat) (s : dyT) : Nat × Nat × wkA := wk as fg dr law (atr k - wl k) row np (720 - s.1) s.1 s.2.1 0 s.2.2.1
def dyN (as fg dr law : Int32) (atr wl fi row : Nat → Int32) (np k : Nat) (s : dyT) : dyT :=
  ((mjmin 719 (mjmax (nI (dyR as fg dr law atr wl row np k s).1 + wl k) (atr k))).toNatClampNeg, (dyR as fg dr law atr wl row np k s).2.1, (dyR as fg dr law atr wl row np k s).2.2,
    s.2.2.2.1 + mjmax 0 (nI (dyR as fg dr law atr wl row np k s).1 + wl k - atr k), s.2.2.2.2.1 + mjmax 0 (nI (dyR as fg dr law atr wl row np k s).1 + wl k - atr k) * fi k,
    s.2.2.2.2.2.1 + mjmax 0 (atr k - (nI (dyR as fg dr law atr wl row np k s).1 + wl k)), upd s.2.2.2.2.2.2 k (nI (dyR as fg dr law atr wl row np k s).1 + wl k))
def dyO (k : Nat) (s : dyT) : dyT := (s.1, s.2.1, s.2.2.1, s.2.2.2.1, s.2.2.2.2.1, s.2.2.2.2.2.1, upd s.2.2.2.2.2.2 k (-4))
def dyS (as fg dr w law : Int32) (atr wl fi row : Nat → Int32) (np wn : Nat) : Nat → dyT
  | 0 => (wn, wn, (0, []), 0, 0, 0, fun _ => 0)
  | k + 1 => if atr k < w then dyO k (dyS as fg dr w law atr wl fi row np wn k) else dyN as fg dr law atr wl fi row np k (dyS as fg dr w law atr wl fi row np wn k)
/-- the works are as told -/
def okW (atr wl : Nat → Int32) (n : Nat) : Prop := n ≤ 5 ∧ ∀ k, k < n → (0 ≤ (atr k).toInt ∧ (atr k).toInt ≤ 719) ∧ (0 ≤ (wl k).toInt ∧ (wl k).toInt ≤ 59)
theorem i32_add {a b : Int32} (h1 : -2147483648 ≤ a.toInt + b.toInt) (h2 : a.toInt + b.toInt < 2147483648) : (a + b).toInt = a.toInt + b.toInt := by
  rw [Int32.toInt_add]
  exact Int.bmod_eq_of_le (by omega) (by omega)
theorem i32_sub {a b : Int32} (h1 : -2147483648 ≤ a.toInt - b.toInt) (h2 : a.toInt - b.toInt < 2147483648) : (a - b).toInt = a.toInt - b.toInt := by
  rw [Int32.toInt_sub]
  exact Int.bmod_eq_of_le (by omega) (by omega)
theorem i32_mul {a b : Int32} (h1 : -2147483648 ≤ a.toInt * b.toInt) (h2 : a.toInt * b.toInt < 2147483648) : (a * b).toInt = a.toInt * b.toInt := by
  rw [Int32.toInt_mul]
  exact Int.bmod_eq_of_le (by omega) (by omega)
theorem i32_lt {a b : Int32} : a < b ↔ a.toInt < b.toInt := Int32.lt_iff_toInt_lt
theorem i32_le {a b : Int32} : a ≤ b ↔ a.toInt ≤ b.toInt := Int32.le_iff_toInt_le
theorem i32_max {a b : Int32} : (mjmax a b).toInt = max a.toInt b.toInt := by
  unfold mjmax
  split
  · rename_i h
    rw [i32_lt] at h
    omega
  · rename_i h
    rw [i32_lt] at h
    omega
theorem i32_min {a b : Int32} : (mjmin a b).toInt = min a.toInt b.toInt := by
  unfold mjmin
  split
  · rename_i h
    rw [i32_lt] at h
    omega
  · rename_i h
    rw [i32_lt] at h
    omega
theorem nI_ofZ {x : Int32} (h0 : 0 ≤ x.toInt) : x = nI x.toNatClampNeg := by
  have hlt : ¬ x < 0 := by
    rw [i32_lt]
    have : (0 : Int32).toInt = 0 := by decide
    omega
  obtain ⟨j, hj, rfl⟩ := nI_of hlt
  rw [nI_clamp hj]
theorem clampZ {x : Int32} (h0 : 0 ≤ x.toInt) : (x.toNatClampNeg : Int) = x.toInt := by
  have := nI_ofZ h0
  obtain ⟨j, hj, e⟩ := nI_of (show ¬ x < 0 by
    rw [i32_lt]
    have : (0 : Int32).toInt = 0 := by decide
    omega)
  rw [e, nI_clamp hj, nI_toInt hj]
/-- the minute at which it is free again -/
theorem dy_free {g : Nat} {a b : Int32} (hg : g ≤ 720) (ha : 0 ≤ a.toInt ∧ a.toInt ≤ 59) (hb : 0 ≤ b.toInt ∧ b.toInt ≤ 719) : mjmin 719 (mjmax (nI g + a) b) = nI (mjmin 719 (mjmax (nI g + a) b)).toNatClampNeg ∧ (mjmin 719 (mjmax (nI g + a) b)).toNatClampNeg ≤ 719 := by
  have hgI : (nI g).toInt = (g : Int) := nI_toInt (by omega)
  have h1 : (nI g + a).toInt = g + a.toInt := by rw [i32_add (by omega) (by omega), hgI]
  have h7 : (719 : Int32).toInt = 719 := by decide
  have h2 : (mjmin 719 (mjmax (nI g + a) b)).toInt = min 719 (max (g + a.toInt) b.toInt) := by rw [i32_min, i32_max, h1, h7]
  have h3 : 0 ≤ (mjmin 719 (mjmax (nI g + a) b)).toInt := by omega
  have h4 := clampZ h3
  exact ⟨nI_ofZ h3, by omega⟩
theorem dyS_free {as fg dr w law : Int32} {atr wl fi row : Nat → Int32} {np wn n : Nat} (hw : wn ≤ 719) (ho : okW atr wl n) : ∀ k, k ≤ n → (dyS as fg dr w law atr wl fi row np wn k).1 ≤ 719
  | 0, _ => hw
  | k + 1, hk => by
    rw [dyS]
    split
    · exact dyS_free hw ho k (by omega)
    · have h1 := dyS_free (as := as) (fg := fg) (dr := dr) (w := w) (law := law) (fi := fi) (row := row) (np := np) hw ho k (by omega)
      have h2 := wk_min (as := as) (f := fg) (dr := dr) (law := law) (aim := atr k - wl k) (row := row) (np := np) (720 - (dyS as fg dr w law atr wl fi row np wn k).1) (dyS as fg dr w law atr wl fi row np wn k).1 (dyS as fg dr w law atr wl fi row np wn k).2.1 0 (dyS as fg dr w law atr wl fi row np wn k).2.2.1
      exact (dy_free (by show (dyR as fg dr law atr wl row np k _).1 ≤ 720; unfold dyR; omega) (ho.2 k (by omega)).2 (ho.2 k (by omega)).1).2
theorem dyS_len {as fg dr w law : Int32} {atr wl fi row : Nat → Int32} {np wn : Nat} : ∀ k n, k ≤ n → (dyS as fg dr w law atr wl fi row np wn k).2.2.1.2.length ≤ (dyS as fg dr w law atr wl fi row np wn n).2.2.1.2.length := by
  intro k n h
  induction h with
  | refl => exact Nat.le_refl _
  | step h ih =>
    refine Nat.le_trans ih ?_
    rw [dyS]
    split
    · exact Nat.le_refl _
    · exact wk_len _ _ _ _ _
/-- the reference's cells after k works -/
def mDS (I : Nat → Nat → Int32) (s : dyT) (k : Nat) : Prop := mSc I s.2.2.1 ∧ I 43 22 = s.2.2.2.1 ∧ I 43 23 = s.2.2.2.2.1 ∧ I 43 24 = s.2.2.2.2.2.1 ∧ ∀ j, j < k → I 63 j = s.2.2.2.2.2.2 j
def scd (k j : Nat) : Bool := ((k == 43 && (((j == 19 || j == 20) || (j == 22 || j == 23)) || j == 24)) || k == 62) || k == 63
