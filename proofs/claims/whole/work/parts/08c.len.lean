/-! a day has at most 13 looks -/
def okP (row : Nat → Int32) (np : Nat) : Prop := np ≤ 8 ∧ (∀ p, p < np → 0 ≤ (row p).toInt ∧ (row p).toInt ≤ 719) ∧ ∀ p q, p < q → q < np → (row p).toInt < (row q).toInt
def cnt (row : Nat → Int32) (m : Nat) : Nat → Nat
  | 0 => 0
  | k + 1 => cnt row m k + (if (m : Int) ≤ (row k).toInt then 1 else 0)
theorem cnt_le (row : Nat → Int32) (m : Nat) : ∀ k, cnt row m k ≤ k
  | 0 => Nat.le_refl _
  | k + 1 => by
    have := cnt_le row m k
    rw [cnt]
    split <;> omega
theorem cnt_mono (row : Nat → Int32) {m m2 : Nat} (h : m ≤ m2) : ∀ k, cnt row m2 k ≤ cnt row m k
  | 0 => Nat.le_refl _
  | k + 1 => by
    have := cnt_mono row h k
    rw [cnt, cnt]
    split <;> split <;> omega
theorem cnt_hit (row : Nat → Int32) {m : Nat} (hm : m < 2 ^ 31) : ∀ k, mPl row (nI m) k ≠ 0 → cnt row (m + 1) k + 1 ≤ cnt row m k
  | 0, h => absurd rfl h
  | k + 1, h => by
    rw [cnt, cnt]
    by_cases e : mPl row (nI m) k ≠ 0
    · have := cnt_hit row hm k e
      split <;> split <;> omega
    · rw [mPl, if_neg e] at h
      by_cases e2 : row k ≠ nI m
      · rw [if_pos e2] at h
        exact absurd rfl h
      · have e3 : row k = nI m := Decidable.not_not.mp e2
        have e4 : (row k).toInt = (m : Int) := by rw [e3, nI_toInt hm]
        have : cnt row (m + 1) k ≤ cnt row m k := cnt_mono row (Nat.le_succ m) k
        rw [e4, if_neg (by omega), if_pos (by omega)]
        omega
theorem cnt_drop (row : Nat → Int32) {m : Nat} : ∀ k, (∀ p q, p < q → q < k → (row p).toInt < (row q).toInt) → cnt row m k ≤ cnt row (m + 1) k + 1
  | 0, _ => Nat.zero_le _
  | k + 1, h => by
    have ih := cnt_drop row (m := m) k (fun p q h1 h2 => h p q h1 (by omega))
    rw [cnt, cnt]
    by_cases e : (row k).toInt = (m : Int)
    · have key : ∀ j, j ≤ k → cnt row m j = cnt row (m + 1) j := by
        intro j
        induction j with
        | zero => intro _; rfl
        | succ j ihj =>
          intro hj
          rw [cnt, cnt, ihj (by omega)]
          have := h j k (by omega) (by omega)
          rw [if_neg (by omega), if_neg (by omega)]
      rw [key k (Nat.le_refl _)]
      split <;> split <;> omega
    · split <;> split <;> omega
theorem wk_end {as f dr law aim : Int32} {row : Nat → Int32} {np : Nat} : ∀ (n m l : Nat) (once : Int32) (a : wkA), m + n = 720 → 0 < n → (wk as f dr law aim row np n m l once a).1 ≤ 719
  | 0, m, l, once, a, h, h0 => absurd h0 (by omega)
  | n + 1, m, l, once, a, h, h0 => by
    rw [wk]
    have e719 : n = 0 → ∀ x, wkG as f dr aim m x = true := by
      intro hn x
      have : m = 719 := by omega
      subst this
      rfl
    cases wkW as f dr law aim row np m l once
    · dsimp only [cond_true, cond_false]
      cases hg : wkG as f dr aim m l
      · have hn : n ≠ 0 := fun q => by rw [e719 q] at hg; cases hg
        exact wk_end n (m + 1) l once a (by omega) (by omega)
      · show m ≤ 719
        omega
    · dsimp only [cond_true, cond_false]
      cases hg : wkG as f dr aim m m
      · have hn : n ≠ 0 := fun q => by rw [e719 q] at hg; cases hg
        exact wk_end n (m + 1) m 1 _ (by omega) (by omega)
      · show m ≤ 719
        omega
theorem wk_clock {as f dr law aim : Int32} {row : Nat → Int32} {np : Nat} (hc : mClock as ≠ 0) : ∀ (n m l : Nat) (once : Int32) (a : wkA), (wk as f dr law aim row np n m l once a).2.2.2.length ≤ a.2.length + (if once = 0 then 1 else 0)
  | 0, m, l, once, a => Nat.le_add_right _ _
  | n + 1, m, l, once, a => by
    have h6 : as ≠ 6 := by
      intro e
      subst e
      exact hc rfl
    rw [wk]
    cases hw : wkW as f dr law aim row np m l once
    · dsimp only [cond_true, cond_false]
      cases wkG as f dr aim m l
      · exact wk_clock hc n (m + 1) l once a
      · exact Nat.le_add_right _ _
    · have ho : once = 0 := by
        unfold wkW at hw
        by_cases e : once = 0
        · exact e
        · simp [e, h6] at hw
      rw [if_pos ho]
      dsimp only [cond_true, cond_false]
      cases wkG as f dr aim m m
      · have := wk_clock (f := f) (dr := dr) (law := law) (aim := aim) (row := row) (np := np) hc n (m + 1) m 1 (a.1 + mPays as (mPrice law (nI m)), a.2 ++ [m])
        rw [if_neg (by decide)] at this
        simpa using this
      · simp
theorem wk_told {as f dr law aim : Int32} {row : Nat → Int32} {np : Nat} (hc : mClock as = 0) : ∀ (n m l : Nat) (once : Int32) (a : wkA), m + n ≤ 720 → (wk as f dr law aim row np n m l once a).2.2.2.length + cnt row ((wk as f dr law aim row np n m l once a).1 + 1) np ≤ a.2.length + cnt row m np
  | 0, m, l, once, a, _ => Nat.add_le_add_left (cnt_mono row (Nat.le_succ m) np) _
  | n + 1, m, l, once, a, h => by
    rw [wk]
    have hm := cnt_mono row (Nat.le_succ m) np
    cases hw : wkW as f dr law aim row np m l once
    · dsimp only [cond_true, cond_false]
      cases wkG as f dr aim m l
      · have := wk_told (f := f) (dr := dr) (law := law) (aim := aim) (row := row) (np := np) hc n (m + 1) l once a (by omega)
        exact Nat.le_trans this (Nat.add_le_add_left hm _)
      · exact Nat.add_le_add_left hm _
    · have hp : mPl row (nI m) np ≠ 0 := by
        unfold wkW at hw
        rw [decide_eq_false (show ¬ mClock as ≠ 0 by rw [hc]; simp)] at hw
        simp at hw
        exact hw.2
      have h2 := cnt_hit row (m := m) (by omega) np hp
      dsimp only [cond_true, cond_false]
      cases wkG as f dr aim m m
      · have := wk_told (f := f) (dr := dr) (law := law) (aim := aim) (row := row) (np := np) hc n (m + 1) m 1 (a.1 + mPays as (mPrice law (nI m)), a.2 ++ [m]) (by omega)
        simp only [List.length_append, List.length_cons, List.length_nil] at this
        dsimp only [cond_false]
        omega
      · show (a.2 ++ [m]).length + cnt row (m + 1) np ≤ a.2.length + cnt row m np
        simp only [List.length_append, List.length_cons, List.length_nil]
        omega
theorem dyS_len13 {as fg dr w law : Int32} {atr wl fi row : Nat → Int32} {np wn n : Nat} (hwn : wn ≤ 719) (ho : okW atr wl n) (hp : okP row np) : (dyS as fg dr w law atr wl fi row np wn n).2.2.1.2.length ≤ 13 := by
  have hn := ho.1
  have hnp := hp.1
  by_cases hc : mClock as ≠ 0
  · have key : ∀ k, k ≤ n → (dyS as fg dr w law atr wl fi row np wn k).2.2.1.2.length ≤ k := by
      intro k
      induction k with
      | zero => intro _; exact Nat.le_refl _
      | succ k ih =>
        intro hk
        rw [dyS]
        split
        · exact Nat.le_succ_of_le (ih (by omega))
        · have := wk_clock (f := fg) (dr := dr) (law := law) (aim := atr k - wl k) (row := row) (np := np) hc (720 - (dyS as fg dr w law atr wl fi row np wn k).1) (dyS as fg dr w law atr wl fi row np wn k).1 (dyS as fg dr w law atr wl fi row np wn k).2.1 0 (dyS as fg dr w law atr wl fi row np wn k).2.2.1
          rw [if_pos rfl] at this
          exact Nat.le_trans this (Nat.add_le_add_right (ih (by omega)) 1)
    exact Nat.le_trans (key n (Nat.le_refl _)) (by omega)
  · have hc : mClock as = 0 := Decidable.not_not.mp hc
    have key : ∀ k, k ≤ n → (dyS as fg dr w law atr wl fi row np wn k).2.2.1.2.length + cnt row (dyS as fg dr w law atr wl fi row np wn k).1 np ≤ np + k := by
      intro k
      induction k with
      | zero =>
        intro _
        have := cnt_le row wn np
        show 0 + cnt row wn np ≤ np + 0
        omega
      | succ k ih =>
        intro hk
        have ih := ih (by omega)
        rw [dyS]
        split
        · show _ + _ ≤ _
          exact Nat.le_trans ih (by omega)
        · have hf := dyS_free (as := as) (fg := fg) (dr := dr) (w := w) (law := law) (fi := fi) (row := row) (np := np) hwn ho k (by omega)
          have h1 := wk_told (f := fg) (dr := dr) (law := law) (aim := atr k - wl k) (row := row) (np := np) hc (720 - (dyS as fg dr w law atr wl fi row np wn k).1) (dyS as fg dr w law atr wl fi row np wn k).1 (dyS as fg dr w law atr wl fi row np wn k).2.1 0 (dyS as fg dr w law atr wl fi row np wn k).2.2.1 (by omega)
          have h2 := wk_end (as := as) (f := fg) (dr := dr) (law := law) (aim := atr k - wl k) (row := row) (np := np) (720 - (dyS as fg dr w law atr wl fi row np wn k).1) (dyS as fg dr w law atr wl fi row np wn k).1 (dyS as fg dr w law atr wl fi row np wn k).2.1 0 (dyS as fg dr w law atr wl fi row np wn k).2.2.1 (by omega) (by omega)
          have hg : (dyR as fg dr law atr wl row np k (dyS as fg dr w law atr wl fi row np wn k)).1 ≤ 719 := h2
          have h3 : (dyR as fg dr law atr wl row np k (dyS as fg dr w law atr wl fi row np wn k)).2.2.2.length + cnt row ((dyR as fg dr law atr wl row np k (dyS as fg dr w law atr wl fi row np wn k)).1 + 1) np ≤ (dyS as fg dr w law atr wl fi row np wn k).2.2.1.2.length + cnt row (dyS as fg dr w law atr wl fi row np wn k).1 np := h1
          have h4 := cnt_drop row (m := (dyR as fg dr law atr wl row np k (dyS as fg dr w law atr wl fi row np wn k)).1) np hp.2.2
          have ha := (ho.2 k (by omega)).2
          have hb := (ho.2 k (by omega)).1
          have hgI : (nI (dyR as fg dr law atr wl row np k (dyS as fg dr w law atr wl fi row np wn k)).1).toInt = ((dyR as fg dr law atr wl row np k (dyS as fg dr w law atr wl fi row np wn k)).1 : Int) := nI_toInt (by omega)
          have h6 : (nI (dyR as fg dr law atr wl row np k (dyS as fg dr w law atr wl fi row np wn k)).1 + wl k).toInt = (dyR as fg dr law atr wl row np k (dyS as fg dr w law atr wl fi row np wn k)).1 + (wl k).toInt := by rw [i32_add (by omega) (by omega), hgI]
          have h7 : (719 : Int32).toInt = 719 := by decide
          have h8 : (mjmin 719 (mjmax (nI (dyR as fg dr law atr wl row np k (dyS as fg dr w law atr wl fi row np wn k)).1 + wl k) (atr k))).toInt = min 719 (max ((dyR as fg dr law atr wl row np k (dyS as fg dr w law atr wl fi row np wn k)).1 + (wl k).toInt) (atr k).toInt) := by rw [i32_min, i32_max, h6, h7]
          have h9 := clampZ (x := mjmin 719 (mjmax (nI (dyR as fg dr law atr wl row np k (dyS as fg dr w law atr wl fi row np wn k)).1 + wl k) (atr k))) (by omega)
          have h5 : (dyR as fg dr law atr wl row np k (dyS as fg dr w law atr wl fi row np wn k)).1 ≤ (mjmin 719 (mjmax (nI (dyR as fg dr law atr wl row np k (dyS as fg dr w law atr wl fi row np wn k)).1 + wl k) (atr k))).toNatClampNeg := by omega
          have h10 := cnt_mono row h5 np
          show (dyR as fg dr law atr wl row np k (dyS as fg dr w law atr wl fi row np wn k)).2.2.2.length + cnt row (mjmin 719 (mjmax (nI (dyR as fg dr law atr wl row np k (dyS as fg dr w law atr wl fi row np wn k)).1 + wl k) (atr k))).toNatClampNeg np ≤ np + (k + 1)
          omega
    have := key n (Nat.le_refl _)
    omega
