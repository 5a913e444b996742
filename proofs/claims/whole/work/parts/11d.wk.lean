/-! from minute to minute, or from look to look: the same -/
def aft (as f dr law aim : Int32) (row : Nat → Int32) (np w : Nat) (a : wkA) : Nat × Nat × wkA :=
  bif wkG as f dr aim w w then (w, w, (a.1 + mPays as (mPrice law (nI w)), a.2 ++ [w])) else wk as f dr law aim row np (719 - w) (w + 1) w 1 (a.1 + mPays as (mPrice law (nI w)), a.2 ++ [w])
theorem wk_skip {as f dr law aim : Int32} {row : Nat → Int32} {np : Nat} : ∀ (k n m l : Nat) (once : Int32) (a : wkA), k ≤ n → (∀ j, m ≤ j → j < m + k → wkW as f dr law aim row np j l once = false ∧ wkG as f dr aim j l = false) → wk as f dr law aim row np n m l once a = wk as f dr law aim row np (n - k) (m + k) l once a
  | 0, n, m, l, once, a, _, _ => rfl
  | k + 1, 0, m, l, once, a, h, _ => absurd h (by omega)
  | k + 1, n + 1, m, l, once, a, h, hj => by
    obtain ⟨h1, h2⟩ := hj m (Nat.le_refl _) (by omega)
    rw [wk, h1, h2]
    dsimp only [cond_false]
    rw [wk_skip k n (m + 1) l once a (by omega) (fun j q1 q2 => hj j (by omega) (by omega)), show m + 1 + k = m + (k + 1) by omega, show n + 1 - (k + 1) = n - k by omega]
theorem wk_step {as f dr law aim once : Int32} {row : Nat → Int32} {np n m l g w : Nat} {a : wkA} (hn : m + n = 720) (h1 : m ≤ g) (h2 : g ≤ 719) (h3 : m ≤ w) (hG : ∀ j, m ≤ j → j < g → wkG as f dr aim j l = false) (hG2 : wkG as f dr aim g l = true)
    (hW : ∀ j, m ≤ j → j < w → wkW as f dr law aim row np j l once = false) (hW2 : w < 720 → wkW as f dr law aim row np w l once = true) : wk as f dr law aim row np n m l once a = if g < w then (g, l, a) else aft as f dr law aim row np w a := by
  by_cases h : g < w
  · rw [if_pos h, wk_skip (g - m) n m l once a (by omega) (fun j q1 q2 => ⟨hW j q1 (by omega), hG j q1 (by omega)⟩)]
    obtain ⟨k, hk⟩ : ∃ k, n - (g - m) = k + 1 := ⟨n - (g - m) - 1, by omega⟩
    rw [hk, show m + (g - m) = g by omega, wk, hW g h1 h, hG2]
    rfl
  · rw [if_neg h, wk_skip (w - m) n m l once a (by omega) (fun j q1 q2 => ⟨hW j q1 (by omega), hG j q1 (by omega)⟩)]
    obtain ⟨k, hk⟩ : ∃ k, n - (w - m) = k + 1 := ⟨n - (w - m) - 1, by omega⟩
    rw [hk, show m + (w - m) = w by omega, wk, hW2 (by omega), show k = 719 - w by omega]
    rfl
theorem aft_step {as f dr law aim : Int32} {row : Nat → Int32} {np p g w : Nat} {a : wkA} (hp : p ≤ 719) (h1 : p ≤ g) (h2 : g ≤ 719) (h3 : p + 1 ≤ w) (hG : ∀ j, p ≤ j → j < g → wkG as f dr aim j p = false) (hG2 : wkG as f dr aim g p = true)
    (hW : ∀ j, p + 1 ≤ j → j < w → wkW as f dr law aim row np j p 1 = false) (hW2 : w < 720 → wkW as f dr law aim row np w p 1 = true) : (bif wkG as f dr aim p p then (p, p, a) else wk as f dr law aim row np (719 - p) (p + 1) p 1 a) = if g < w then (g, p, a) else aft as f dr law aim row np w a := by
  cases e : wkG as f dr aim p p
  · have hpg : p ≠ g := fun q => by
      subst q
      rw [e] at hG2
      cases hG2
    dsimp only [cond_false]
    exact wk_step (by omega) (by omega) h2 h3 (fun j q1 q2 => hG j (by omega) q2) hG2 hW hW2
  · have hpg : p = g := by
      refine Decidable.not_not.mp fun q => ?_
      rw [hG p (Nat.le_refl _) (by omega)] at e
      cases e
    subst hpg
    rw [if_pos (by omega)]
    rfl
theorem g_spec {as f dr aim : Int32} {l p : Nat} (hp : p ≤ 719) : p ≤ min 719 (fT dr (aim - mEarly as f) l p) ∧ min 719 (fT dr (aim - mEarly as f) l p) ≤ 719 ∧ (∀ j, p ≤ j → j < min 719 (fT dr (aim - mEarly as f) l p) → wkG as f dr aim j l = false) ∧ wkG as f dr aim (min 719 (fT dr (aim - mEarly as f) l p)) l = true := by
  obtain ⟨h1, h2, h3, h4⟩ := fst9_spec (fun j => !(decide (mTho dr (nI l) (nI j) < aim - mEarly as f))) (720 - p) p
  have e : fT dr (aim - mEarly as f) l p = fst9 (fun j => !(decide (mTho dr (nI l) (nI j) < aim - mEarly as f))) (720 - p) p := rfl
  rw [← e] at h1 h2 h3 h4
  refine ⟨by omega, by omega, fun j q1 q2 => ?_, ?_⟩
  · have h5 := h3 j q1 (by omega)
    unfold wkG
    rw [decide_eq_false (show ¬ nI j = 719 by rw [show (719 : Int32) = nI 719 from rfl, nI_eq (by omega) (by omega)]; omega), h5]
    rfl
  · by_cases h6 : fT dr (aim - mEarly as f) l p < 719
    · have h5 := h4 (by omega)
      rw [show min 719 (fT dr (aim - mEarly as f) l p) = fT dr (aim - mEarly as f) l p by omega]
      unfold wkG
      rw [h5, Bool.or_true]
    · rw [show min 719 (fT dr (aim - mEarly as f) l p) = 719 by omega]
      rfl
theorem wkW_A {as f dr law aim once : Int32} {row : Nat → Int32} {np m l : Nat} (h1 : mClock as ≠ 0) (h3 : (decide (as = 3) || decide (as = 7)) = false) (h6 : as ≠ 6) : wkW as f dr law aim row np m l once = (decide (once = 0) && !(decide (mTho dr (nI l) (nI m) < aim - 5 * f))) := by
  unfold wkW
  rw [decide_eq_true h1, h3, decide_eq_false h6]
  cases decide (once = 0) <;> cases decide (mTho dr (nI l) (nI m) < aim - 5 * f) <;> rfl
theorem wkW_B {as f dr law aim once : Int32} {row : Nat → Int32} {np m l : Nat} (h1 : mClock as ≠ 0) (h3 : (decide (as = 3) || decide (as = 7)) = true) (h6 : as ≠ 6) : wkW as f dr law aim row np m l once = ((decide (once = 0) && !(decide (mTho dr (nI l) (nI m) < aim - 5 * f))) && !(decide (f < mPrice law (nI m)))) := by
  unfold wkW
  rw [decide_eq_true h1, h3, decide_eq_false h6]
  cases decide (once = 0) <;> cases decide (mTho dr (nI l) (nI m) < aim - 5 * f) <;> rfl
theorem wkW_C {f dr law aim once : Int32} {row : Nat → Int32} {np m l : Nat} : wkW 6 f dr law aim row np m l once = decide (mPl row (nI m) np ≠ 0) := rfl
theorem wkW_D {as f dr law aim once : Int32} {row : Nat → Int32} {np m l : Nat} (h1 : mClock as = 0) (h6 : as ≠ 6) : wkW as f dr law aim row np m l once = false := by
  unfold wkW
  rw [decide_eq_false (show ¬ mClock as ≠ 0 from fun h => h h1), decide_eq_false h6]
  rfl
def wSp (as f dr law aim : Int32) (row : Nat → Int32) (np l q : Nat) (once : Int32) (w : Nat) : Prop := q ≤ w ∧ w ≤ 720 ∧ (∀ j, q ≤ j → j < w → wkW as f dr law aim row np j l once = false) ∧ (w < 720 → wkW as f dr law aim row np w l once = true)
theorem wSp_A {as f dr law aim once : Int32} {row : Nat → Int32} {np l p q : Nat} {z : Int32} (h1 : mClock as ≠ 0) (h3 : (decide (as = 3) || decide (as = 7)) = false) (h6 : as ≠ 6) (hp : p ≤ 720) (hpq : q ≤ 720) (h0 : once = 0 → q = p) (hz : z ≤ 0 ↔ once = 0) :
    ∃ w, (if z ≤ 0 then nI (fT dr (aim - 5 * f) l p) else 720) = nI w ∧ wSp as f dr law aim row np l q once w ∧ (once ≠ 0 → w = 720) := by
  by_cases e : once = 0
  · have e2 := h0 e
    subst e2
    obtain ⟨g1, g2, g3, g4⟩ := fst9_spec (fun j => !(decide (mTho dr (nI l) (nI j) < aim - 5 * f))) (720 - q) q
    have e3 : fT dr (aim - 5 * f) l q = fst9 (fun j => !(decide (mTho dr (nI l) (nI j) < aim - 5 * f))) (720 - q) q := rfl
    rw [← e3] at g1 g2 g3 g4
    refine ⟨fT dr (aim - 5 * f) l q, if_pos (hz.mpr e), ⟨g1, by omega, fun j q1 q2 => ?_, fun q1 => ?_⟩, fun h => absurd e h⟩
    · rw [wkW_A h1 h3 h6, g3 j q1 q2, Bool.and_false]
    · rw [wkW_A h1 h3 h6, g4 (by omega), e]
      rfl
  · refine ⟨720, if_neg (fun h => e (hz.mp h)), ⟨hpq, Nat.le_refl _, fun j q1 q2 => ?_, fun h => absurd h (Nat.lt_irrefl _)⟩, fun _ => rfl⟩
    rw [wkW_A h1 h3 h6, decide_eq_false e]
    rfl
theorem wSp_B {as f dr aim once : Int32} {row : Nat → Int32} {np l p q lw : Nat} {z : Int32} (hd : -20 ≤ dr.toInt ∧ dr.toInt ≤ 20) (hl : l ≤ 1000) (hlw : lw < 3) (h1 : mClock as ≠ 0) (h3 : (decide (as = 3) || decide (as = 7)) = true) (h6 : as ≠ 6) (hp : p ≤ 720) (hpq : q ≤ 720) (h0 : once = 0 → q = p) (hz : z ≤ 0 ↔ once = 0) :
    ∃ w, (if z ≤ 0 then nI (xCh (nI lw) f (fT dr (aim - 5 * f) l p)) else 720) = nI w ∧ wSp as f dr (nI lw) aim row np l q once w ∧ (once ≠ 0 → w = 720) := by
  by_cases e : once = 0
  · have e2 := h0 e
    subst e2
    obtain ⟨g1, g2, g3, g4⟩ := fst9_spec (fun j => !(decide (mTho dr (nI l) (nI j) < aim - 5 * f))) (720 - q) q
    have e3 : fT dr (aim - 5 * f) l q = fst9 (fun j => !(decide (mTho dr (nI l) (nI j) < aim - 5 * f))) (720 - q) q := rfl
    rw [← e3] at g1 g2 g3 g4
    generalize fT dr (aim - 5 * f) l q = rd at g1 g2 g3 g4
    obtain ⟨f1, f2, f3, f4⟩ := fst9_spec (fun j => !(decide (f < xPrice (nI j) (nI lw)))) (720 - rd) rd
    have e4 : xCh (nI lw) f rd = fst9 (fun j => !(decide (f < xPrice (nI j) (nI lw)))) (720 - rd) rd := rfl
    rw [← e4] at f1 f2 f3 f4
    refine ⟨xCh (nI lw) f rd, if_pos (hz.mpr e), ⟨by omega, by omega, fun j q1 q2 => ?_, fun q1 => ?_⟩, fun h => absurd e h⟩
    · rw [wkW_B h1 h3 h6]
      by_cases q3 : j < rd
      · rw [g3 j q1 q3, Bool.and_false, Bool.false_and]
      · rw [← xPrice_eq hlw (show j < 720 by omega), f3 j (by omega) q2, Bool.and_false]
    · have f5 := f4 (by omega)
      rw [xPrice_eq hlw q1] at f5
      have g5 := g4 (by omega)
      have g6 : ¬ mTho dr (nI l) (nI (xCh (nI lw) f rd)) < aim - 5 * f := fun h => by
        have h7 := tho_mono (T := aim - 5 * f) hd hl (xCh (nI lw) f rd - rd) rd (by omega) (by rw [show rd + (xCh (nI lw) f rd - rd) = xCh (nI lw) f rd by omega]; exact h)
        rw [decide_eq_true h7] at g5
        cases g5
      rw [wkW_B h1 h3 h6, e, decide_eq_false g6, f5]
      rfl
  · refine ⟨720, if_neg (fun h => e (hz.mp h)), ⟨hpq, Nat.le_refl _, fun j q1 q2 => ?_, fun h => absurd h (Nat.lt_irrefl _)⟩, fun _ => rfl⟩
    rw [wkW_B h1 h3 h6, decide_eq_false e]
    rfl
theorem w_spec {f dr aim once : Int32} {row : Nat → Int32} {kd np l p q lw : Nat} {z : Int32} (hk : kd < 8) (hd : -20 ≤ dr.toInt ∧ dr.toInt ≤ 20) (hl : l ≤ 1000) (hlw : lw < 3) (ho : okP row np) (hp : p ≤ 720) (hpq : q ≤ 720) (h0 : once = 0 → q = p) (hz : z ≤ 0 ↔ once = 0) :
    ∃ w, nlZ kd row np f (nI lw) (fT dr (aim - 5 * f) l p) (nI q) z = nI w ∧ wSp (asOf kd) f dr (nI lw) aim row np l q once w ∧ (kd ≠ 6 → once ≠ 0 → w = 720) := by
  have hD : ∀ as : Int32, mClock as = 0 → as ≠ 6 → ∃ w, (720 : Int32) = nI w ∧ wSp as f dr (nI lw) aim row np l q once w ∧ (once ≠ 0 → w = 720) := fun as h1 h6 =>
    ⟨720, rfl, ⟨hpq, Nat.le_refl _, fun j q1 q2 => wkW_D h1 h6, fun h => absurd h (Nat.lt_irrefl _)⟩, fun _ => rfl⟩
  refine kd_cases (P := fun kd => ∃ w, nlZ kd row np f (nI lw) (fT dr (aim - 5 * f) l p) (nI q) z = nI w ∧ wSp (asOf kd) f dr (nI lw) aim row np l q once w ∧ (kd ≠ 6 → once ≠ 0 → w = 720)) hk ?_ ?_ ?_ ?_ ?_ ?_ ?_ ?_
  · obtain ⟨w, h1, h2, h3⟩ := hD 0 (by decide) (by decide)
    exact ⟨w, h1, h2, fun _ => h3⟩
  · obtain ⟨w, h1, h2, h3⟩ := hD 1 (by decide) (by decide)
    exact ⟨w, h1, h2, fun _ => h3⟩
  · obtain ⟨w, h1, h2, h3⟩ := wSp_A (as := 2) (f := f) (dr := dr) (law := nI lw) (aim := aim) (row := row) (np := np) (l := l) (by decide) (by decide) (by decide) hp hpq h0 hz
    exact ⟨w, h1, h2, fun _ => h3⟩
  · obtain ⟨w, h1, h2, h3⟩ := wSp_B (as := 3) (f := f) (dr := dr) (aim := aim) (row := row) (np := np) (l := l) hd hl hlw (by decide) (by decide) (by decide) hp hpq h0 hz
    exact ⟨w, h1, h2, fun _ => h3⟩
  · obtain ⟨w, h1, h2, h3⟩ := wSp_A (as := 2) (f := f) (dr := dr) (law := nI lw) (aim := aim) (row := row) (np := np) (l := l) (by decide) (by decide) (by decide) hp hpq h0 hz
    exact ⟨w, h1, h2, fun _ => h3⟩
  · obtain ⟨w, h1, h2, h3⟩ := wSp_A (as := 5) (f := f) (dr := dr) (law := nI lw) (aim := aim) (row := row) (np := np) (l := l) (by decide) (by decide) (by decide) hp hpq h0 hz
    exact ⟨w, h1, h2, fun _ => h3⟩
  · obtain ⟨w, h1, h2, h3, h4, h5⟩ := xNp_spec ho hpq np 0 (by omega) (fun p h => absurd h (Nat.not_lt_zero _))
    refine ⟨w, h1, ⟨h2, h3, fun j q1 q2 => ?_, fun q1 => ?_⟩, fun h => absurd rfl h⟩
    · show wkW 6 f dr (nI lw) aim row np j l once = false
      rw [wkW_C, h4 j q1 q2]
      rfl
    · show wkW 6 f dr (nI lw) aim row np w l once = true
      rw [wkW_C, decide_eq_true (h5 q1)]
  · obtain ⟨w, h1, h2, h3⟩ := wSp_B (as := 7) (f := f) (dr := dr) (aim := aim) (row := row) (np := np) (l := l) hd hl hlw (by decide) (by decide) (by decide) hp hpq h0 hz
    exact ⟨w, h1, h2, fun _ => h3⟩
theorem mjmin_n {a b : Nat} (ha : a < 2 ^ 31) (hb : b < 2 ^ 31) : mjmin (nI a) (nI b) = nI (min a b) := by
  apply Int32.toInt_inj.mp
  rw [i32_min, nI_toInt ha, nI_toInt hb, nI_toInt (by omega)]
  omega
theorem aft_len {as f dr law aim : Int32} {row : Nat → Int32} {np w : Nat} {a : wkA} : a.2.length + 1 ≤ (aft as f dr law aim row np w a).2.2.2.length := by
  unfold aft
  cases wkG as f dr aim w w
  · dsimp only [cond_false]
    refine Nat.le_trans ?_ (wk_len _ _ _ _ _)
    simp
  · dsimp only [cond_true]
    simp
