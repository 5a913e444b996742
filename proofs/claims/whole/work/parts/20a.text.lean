/-! texts: what is read -/
def dgt (v : Int32) : Bool := !decide (v < 48) && !decide (57 < v)
def dval (v : Int32) : Nat := v.toNatClampNeg - 48
theorem dgt_n {v : Int32} (h : dgt v = true) : v = nI (dval v + 48) ∧ dval v ≤ 9 := by
  unfold dgt at h
  rw [Bool.and_eq_true, Bool.not_eq_true', Bool.not_eq_true', decide_eq_false_iff_not, decide_eq_false_iff_not] at h
  have e48 : (48 : Int32).toInt = 48 := by decide
  have e57 : (57 : Int32).toInt = 57 := by decide
  have e0 : (0 : Int32).toInt = 0 := by decide
  rw [i32_lt, i32_lt, e48, e57] at h
  obtain ⟨j, hj, rfl⟩ := nI_of (x := v) (by rw [i32_lt, e0]; omega)
  rw [nI_toInt hj] at h
  unfold dval
  rw [nI_clamp hj]
  exact ⟨by rw [show j - 48 + 48 = j by omega], by omega⟩
theorem dgt_d {v : Int32} : (xDigit v = 0 ↔ dgt v = false) ∧ (xDigit v ≠ 0 ↔ dgt v = true) := by
  unfold xDigit dgt
  by_cases h1 : v < 48
  · rw [if_pos h1, decide_eq_true h1]
    simp
  · rw [if_neg h1, decide_eq_false h1]
    by_cases h2 : 57 < v
    · rw [if_pos h2, decide_eq_true h2]
      decide
    · rw [if_neg h2, decide_eq_false h2]
      decide
def cntD (g : Nat → Int32) : Nat → Nat → Nat
  | 0, _ => 0
  | m + 1, p => if dgt (g p) = true then cntD g m (p + 1) + 1 else 0
def numD (g : Nat → Int32) : Nat → Nat → Nat → Nat
  | 0, _, v => v
  | n + 1, p, v => numD g n (p + 1) (10 * v + dval (g p))
def nDg (g : Nat → Int32) (most p : Nat) : Nat := if g p = 48 then 1 else cntD g most p
def sgV (g : Nat → Int32) (p : Nat) : Int32 := if g p = 43 then 1 else if g p = 45 then -1 else 0
def szP (g : Nat → Int32) (c p : Nat) : Nat := if c = 49 then nDg g 1 p else if c = 50 then nDg g 2 p else if c = 51 then nDg g 3 p else if c = 43 then (if sgV g p = 0 then 0 else 1) else (if g p = nI c then 1 else 0)
def vlP (g : Nat → Int32) (c p : Nat) : Int32 := if c = 43 then sgV g p else nI (numD g (szP g c p) p 0)
def rdE (g : Nat → Int32) : List Nat → Nat → Nat × Bool
  | [], p => (p, true)
  | c :: cs, p => if szP g c p = 0 then (p, false) else rdE g cs (p + szP g c p)
def vls (g : Nat → Int32) : List Nat → Nat → List Int32
  | [], _ => []
  | c :: cs, p => if c = 32 ∨ c = 59 then vls g cs (p + szP g c p) else vlP g c p :: vls g cs (p + szP g c p)
def lfm (l : Int32) : List Nat := if l = 119 then [51, 32, 50, 32, 49, 59] else if l = 107 then [49, 49, 43, 50, 32, 51, 59] else if l = 108 then [49, 59] else if l = 112 then [51, 59] else []
def stE (g : Nat → Int32) (p : Nat) : Nat × Bool := if lfm (g p) = [] then (p, false) else rdE g (lfm (g p)) (p + 1)
def stV (g : Nat → Int32) (p : Nat) : List Int32 := vls g (lfm (g p)) (p + 1)
theorem vlP_43 {g : Nat → Int32} {p : Nat} : vlP g 43 p = sgV g p := if_pos rfl
theorem vlP_n {g : Nat → Int32} {c p : Nat} (h : c ≠ 43) : vlP g c p = nI (numD g (szP g c p) p 0) := if_neg h
theorem cntD_le {g : Nat → Int32} : ∀ (m p : Nat), cntD g m p ≤ m
  | 0, _ => Nat.le_refl _
  | m + 1, p => by
    rw [cntD]
    have := cntD_le (g := g) m (p + 1)
    split <;> omega
theorem szP_3 {g : Nat → Int32} {c p : Nat} : szP g c p ≤ 3 := by
  unfold szP nDg
  have h1 := cntD_le (g := g) 1 p
  have h2 := cntD_le (g := g) 2 p
  have h3 := cntD_le (g := g) 3 p
  repeat' split
  all_goals omega
theorem cntD_dg {g : Nat → Int32} : ∀ (m p i : Nat), i < cntD g m p → dgt (g (p + i)) = true
  | 0, _, i, h => absurd h (Nat.not_lt_zero _)
  | m + 1, p, i, h => by
    rw [cntD] at h
    by_cases w : dgt (g p) = true
    · rw [if_pos w] at h
      match i, h with
      | 0, _ => exact w
      | i + 1, h => rw [show p + (i + 1) = p + 1 + i by omega]; exact cntD_dg m (p + 1) i (by omega)
    · rw [if_neg w] at h
      omega
theorem nDg_dg {g : Nat → Int32} {m p i : Nat} (h : i < nDg g m p) : dgt (g (p + i)) = true := by
  unfold nDg at h
  by_cases w : g p = 48
  · rw [if_pos w] at h
    rw [show p + i = p by omega, w]
    decide
  · rw [if_neg w] at h
    exact cntD_dg m p i h
def rdA (r : Nat × Bool) : Int32 := if r.2 = true then nI r.1 else -1 - nI r.1
theorem rdA_t {p : Nat} : rdA (p, true) = nI p := rfl
theorem rdA_f {p : Nat} : rdA (p, false) = -1 - nI p := rfl
theorem rdE_f {g : Nat → Int32} {c p : Nat} {cs : List Nat} (h : ¬ nI (szP g c p) ≠ 0) : rdE g (c :: cs) p = (p, false) := by
  have := szP_3 (g := g) (c := c) (p := p)
  rw [ne_eq, show (0 : Int32) = nI 0 from rfl, nI_eq (by omega) (by omega)] at h
  rw [rdE, if_pos (Decidable.not_not.mp h)]
theorem rdE_t {g : Nat → Int32} {c p : Nat} {cs : List Nat} (h : nI (szP g c p) ≠ 0) : rdE g (c :: cs) p = rdE g cs (p + szP g c p) := by
  have := szP_3 (g := g) (c := c) (p := p)
  rw [ne_eq, show (0 : Int32) = nI 0 from rfl, nI_eq (by omega) (by omega)] at h
  rw [rdE, if_neg h]
def gOf (I : Nat → Nat → Int32) (e : Nat) (g : Nat → Int32) : Prop := ∀ p, p < 1000 → xVal I e (nI p) = g p
theorem gOf.u {I : Nat → Nat → Int32} {e j : Nat} {v : Int32} {g : Nat → Int32} (h : gOf I e g) : gOf (mjU I 22 j v) e g := fun p hp => by
  rw [← h p hp]
  unfold xVal xHasP
  rw [mjU_r (by omega), mjU_r (by omega)]
theorem gOf.cg {I J : Nat → Nat → Int32} {e : Nat} {g : Nat → Int32} (h : gOf I e g) (h1 : J (27 + 2 * e) = I (27 + 2 * e)) (h2 : J (28 + 2 * e) = I (28 + 2 * e)) : gOf J e g := fun p hp => by
  rw [← h p hp]
  unfold xVal xHasP
  rw [h1, h2]
theorem add48 {x : Int32} {n : Nat} : (x + nI (n + 48)) - 48 = x + nI n := by
  rw [← nI_add, ← Int32.add_assoc]
  exact Int32.add_sub_cancel _ _
theorem num_s {v n : Nat} : ((nI v * 10) + nI (n + 48)) - 48 = nI (10 * v + n) := by
  rw [add48, show (10 : Int32) = nI 10 from rfl, nI_mul, nI_add, Nat.mul_comm]
