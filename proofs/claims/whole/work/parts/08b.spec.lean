/-! what a day is: minute by minute -/
def eqO (s : Nat → Nat → Bool) (I J : Nat → Nat → Int32) : Prop := ∀ k j, s k j = false → J k j = I k j
theorem eqO.rf {s : Nat → Nat → Bool} {I : Nat → Nat → Int32} : eqO s I I := fun _ _ _ => rfl
theorem eqO.trans {s : Nat → Nat → Bool} {I J L : Nat → Nat → Int32} (h : eqO s I J) (h2 : eqO s J L) : eqO s I L := fun k j q => (h2 k j q).trans (h k j q)
theorem eqO.put {s : Nat → Nat → Bool} {I J : Nat → Nat → Int32} {a b : Nat} {v : Int32} (h : eqO s I J) (hs : s a b = true) : eqO s I (mjU J a b v) := fun k j q => by
  unfold mjU
  by_cases e : k = a
  · subst e
    rw [if_pos rfl]
    by_cases e2 : j = b
    · subst e2
      rw [hs] at q
      cases q
    · rw [if_neg e2]
      exact h k j q
  · rw [if_neg e]
    exact h k j q
theorem eqO.mono {s t : Nat → Nat → Bool} {I J : Nat → Nat → Int32} (h : eqO s I J) (hst : ∀ k j, s k j = true → t k j = true) : eqO t I J := fun k j q => h k j (by
  cases e : s k j
  · rfl
  · rw [hst k j e] at q
    cases q)
theorem eqO.row {s : Nat → Nat → Bool} {I J : Nat → Nat → Int32} (h : eqO s I J) {k : Nat} (hk : ∀ j, s k j = false) : J k = I k := funext fun j => h k j (hk j)
/-- is one of the first n minutes of the row this one -/
def mPl (row : Nat → Int32) (m : Int32) : Nat → Int32
  | 0 => 0
  | k + 1 => if mPl row m k ≠ 0 then 1 else if row k ≠ m then 0 else 1
def wkW (as f dr law aim : Int32) (row : Nat → Int32) (np m l : Nat) (once : Int32) : Bool :=
  bif (decide (mClock as ≠ 0) && decide (once = 0)) && !(decide (mTho dr (nI l) (nI m) < aim - 5 * f)) then (!(decide (as = 3) || decide (as = 7)) || !(decide (f < mPrice law (nI m))))
  else decide (as = 6) && decide (mPl row (nI m) np ≠ 0)
def wkG (as f dr aim : Int32) (m l : Nat) : Bool := decide (nI m = 719) || !(decide (mTho dr (nI l) (nI m) < aim - mEarly as f))
abbrev wkA : Type := Int32 × List Nat
def wk (as f dr law aim : Int32) (row : Nat → Int32) (np : Nat) : Nat → Nat → Nat → Int32 → wkA → Nat × Nat × wkA
  | 0, m, l, _, a => (m, l, a)
  | n + 1, m, l, once, a => bif wkW as f dr law aim row np m l once then
      (bif wkG as f dr aim m m then (m, m, (a.1 + mPays as (mPrice law (nI m)), a.2 ++ [m])) else wk as f dr law aim row np n (m + 1) m 1 (a.1 + mPays as (mPrice law (nI m)), a.2 ++ [m]))
      else (bif wkG as f dr aim m l then (m, l, a) else wk as f dr law aim row np n (m + 1) l once a)
theorem wk_len {as f dr law aim : Int32} {row : Nat → Int32} {np : Nat} : ∀ (n m l : Nat) (once : Int32) (a : wkA), a.2.length ≤ (wk as f dr law aim row np n m l once a).2.2.2.length := by
  intro n
  induction n with
  | zero => intro m l once a; exact Nat.le_refl _
  | succ n ih =>
    intro m l once a
    rw [wk]
    cases wkW as f dr law aim row np m l once
    · cases wkG as f dr aim m l
      · exact ih _ _ _ _
      · exact Nat.le_refl _
    · cases wkG as f dr aim m m
      · refine Nat.le_trans ?_ (ih _ _ _ _)
        simp
      · simp
theorem wk_min {as f dr law aim : Int32} {row : Nat → Int32} {np : Nat} : ∀ (n m l : Nat) (once : Int32) (a : wkA), m ≤ (wk as f dr law aim row np n m l once a).1 ∧ (wk as f dr law aim row np n m l once a).1 ≤ m + n := by
  intro n
  induction n with
  | zero => intro m l once a; exact ⟨Nat.le_refl _, Nat.le_refl _⟩
  | succ n ih =>
    intro m l once a
    rw [wk]
    cases wkW as f dr law aim row np m l once
    · cases wkG as f dr aim m l
      · dsimp only [cond_true, cond_false]
        have := ih (m + 1) l once a
        exact ⟨by omega, by omega⟩
      · exact ⟨Nat.le_refl _, Nat.le_add_right _ _⟩
    · cases wkG as f dr aim m m
      · dsimp only [cond_true, cond_false]
        have := ih (m + 1) m 1 (a.1 + mPays as (mPrice law (nI m)), a.2 ++ [m])
        exact ⟨by omega, by omega⟩
      · exact ⟨Nat.le_refl _, Nat.le_add_right _ _⟩
/-- the looks of the reference's day so far -/
def mSc (I : Nat → Nat → Int32) (a : wkA) : Prop := I 43 19 = a.1 ∧ I 43 20 = nI a.2.length ∧ ∀ i, i < a.2.length → I 62 i = nI (a.2.getD i 0)
def scw (k j : Nat) : Bool := (k == 43 && (j == 19 || j == 20)) || k == 62
