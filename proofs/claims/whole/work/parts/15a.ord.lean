/-! order: ranks -/
def olt (c : Nat → Int32) (a b : Nat) : Bool := decide (c a < c b) || (decide (c a = c b) && decide (a < b))
def ocn (p : Nat → Bool) : Nat → Nat → Nat
  | 0, _ => 0
  | k + 1, j => (if p j = true then 1 else 0) + ocn p k (j + 1)
def opw : Nat → Int32
  | 0 => 1
  | n + 1 => opw n * 10
def ork (c : Nat → Int32) (nl i : Nat) : Nat := ocn (fun j => olt c j i) nl 0
def ordV (c : Nat → Int32) (nl : Nat) : Int32 := smV (fun i => nI i * opw (ork c nl i)) nl 0 0
theorem olt_iff {c : Nat → Int32} {a b : Nat} : olt c a b = true ↔ (c a).toInt < (c b).toInt ∨ ((c a).toInt = (c b).toInt ∧ a < b) := by
  unfold olt
  rw [Bool.or_eq_true, Bool.and_eq_true, decide_eq_true_eq, decide_eq_true_eq, decide_eq_true_eq, i32_lt, Int32.toInt_inj]
theorem olt_no {c : Nat → Int32} {a b : Nat} : olt c a b = false ↔ ¬ ((c a).toInt < (c b).toInt ∨ ((c a).toInt = (c b).toInt ∧ a < b)) := by
  rw [← olt_iff]
  exact Bool.not_eq_true _ |>.symm ▸ Iff.rfl
theorem ocn_le {p : Nat → Bool} : ∀ (k j : Nat), ocn p k j ≤ k
  | 0, _ => Nat.le_refl _
  | k + 1, j => by
    rw [ocn]
    have := ocn_le (p := p) k (j + 1)
    split <;> omega
theorem ocn_all {p : Nat → Bool} : ∀ (k j : Nat), ocn p k j = k → ∀ i, j ≤ i → i < j + k → p i = true
  | 0, _, _, i, h1, h2 => by omega
  | k + 1, j, h, i, h1, h2 => by
    rw [ocn] at h
    have h3 := ocn_le (p := p) k (j + 1)
    by_cases w : p j = true
    · rw [if_pos w] at h
      by_cases e : i = j
      · rw [e]
        exact w
      · exact ocn_all k (j + 1) (by omega) i (by omega) (by omega)
    · rw [if_neg w] at h
      omega
theorem ocn_cg {p q : Nat → Bool} : ∀ (k j : Nat), (∀ i, j ≤ i → i < j + k → p i = q i) → ocn p k j = ocn q k j
  | 0, _, _ => rfl
  | k + 1, j, h => by
    rw [ocn, ocn, h j (by omega) (by omega), ocn_cg k (j + 1) (fun i h1 h2 => h i (by omega) (by omega))]
theorem ocn_no {p : Nat → Bool} : ∀ (k j : Nat), (∀ i, j ≤ i → i < j + k → p i = false) → ocn p k j = 0
  | 0, _, _ => rfl
  | k + 1, j, h => by
    rw [ocn, h j (by omega) (by omega), ocn_no k (j + 1) (fun i h1 h2 => h i (by omega) (by omega))]
    rfl
theorem ocn_add {p q : Nat → Bool} {b : Nat} (hp : p b = false) (hq : q b = true) : ∀ (k j : Nat), j ≤ b → b < j + k → (∀ i, i ≠ b → p i = q i) → ocn q k j = ocn p k j + 1
  | 0, _, h1, h2, _ => by omega
  | k + 1, j, h1, h2, h => by
    rw [ocn, ocn]
    by_cases e : j = b
    · rw [e, hp, hq, if_pos rfl, if_neg (by decide), ocn_cg (p := p) (q := q) k (b + 1) (fun i h1 _ => h i (by omega))]
      omega
    · rw [h j e, ocn_add hp hq k (j + 1) (by omega) (by omega) h]
      omega
theorem smV_sh {c : Nat → Int32} : ∀ (k j : Nat) (s x : Int32), smV c k j (s + x) = smV c k j s + x
  | 0, _, _, _ => rfl
  | k + 1, j, s, x => by rw [smV, smV, Int32.add_assoc, Int32.add_comm x, ← Int32.add_assoc, smV_sh k]
theorem smV_cg {c e : Nat → Int32} : ∀ (k j : Nat) (s : Int32), (∀ i, j ≤ i → i < j + k → c i = e i) → smV c k j s = smV e k j s
  | 0, _, _, _ => rfl
  | k + 1, j, s, h => by rw [smV, smV, h j (by omega) (by omega), smV_cg k (j + 1) _ (fun i h1 h2 => h i (by omega) (by omega))]
theorem smV_0 {c : Nat → Int32} : ∀ (k j : Nat) (s : Int32), (∀ i, j ≤ i → i < j + k → c i = 0) → smV c k j s = s
  | 0, _, _, _ => rfl
  | k + 1, j, s, h => by rw [smV, h j (by omega) (by omega), Int32.add_zero, smV_0 k (j + 1) _ (fun i h1 h2 => h i (by omega) (by omega))]
theorem smV_add {c e : Nat → Int32} {b : Nat} {x : Int32} (hb : e b = c b + x) : ∀ (k j : Nat) (s : Int32), j ≤ b → b < j + k → (∀ i, i ≠ b → c i = e i) → smV e k j s = smV c k j s + x
  | 0, _, _, h1, h2, _ => by omega
  | k + 1, j, s, h1, h2, h => by
    rw [smV, smV]
    by_cases w : j = b
    · rw [w, hb, ← Int32.add_assoc, smV_sh, smV_cg (c := c) (e := e) k (b + 1) _ (fun i h1 _ => h i (by omega))]
    · rw [h j w, smV_add hb k (j + 1) _ (by omega) (by omega) h]
theorem ork_cg {c e : Nat → Int32} {nl i : Nat} (h : ∀ i, i < nl → c i = e i) (hi : i < nl) : ork c nl i = ork e nl i := by
  unfold ork
  refine ocn_cg _ _ fun j h1 h2 => ?_
  unfold olt
  rw [h j (by omega), h i hi]
theorem ordV_cg {c e : Nat → Int32} {nl : Nat} (h : ∀ i, i < nl → c i = e i) : ordV c nl = ordV e nl := by
  unfold ordV
  exact smV_cg _ _ _ fun i h1 h2 => by rw [ork_cg h (by omega)]
theorem bit_d : ∀ m : Fin 64, ∀ k : Fin 6, (((nI m.val >>> (nI k.val &&& 31)) &&& 1 ≠ 0) ↔ m.val.testBit k.val = true) ∧ (nI m.val ||| ((1 : Int32) <<< (nI k.val &&& 31))) = nI (m.val ||| 2 ^ k.val) ∧ (m.val ||| 2 ^ k.val) < 64 := by decide +kernel
theorem bit_1 {m k : Nat} (hm : m < 64) (hk : k < 6) : ((nI m >>> (nI k &&& 31)) &&& 1 ≠ 0) ↔ m.testBit k = true := (bit_d ⟨m, hm⟩ ⟨k, hk⟩).1
theorem bit_2 {m k : Nat} (hm : m < 64) (hk : k < 6) : (nI m ||| ((1 : Int32) <<< (nI k &&& 31))) = nI (m ||| 2 ^ k) ∧ (m ||| 2 ^ k) < 64 := (bit_d ⟨m, hm⟩ ⟨k, hk⟩).2
theorem bit_3 {m b i : Nat} : (m ||| 2 ^ b).testBit i = (m.testBit i || decide (b = i)) := by
  rw [Nat.testBit_or, Nat.testBit_two_pow]
def oI (c : Nat → Int32) (nl m n : Nat) (D : Int32) : Prop := m < 64 ∧ ocn (fun i => m.testBit i) nl 0 = n ∧ (∀ i j, i < nl → j < nl → m.testBit i = true → m.testBit j = false → olt c i j = true) ∧ D = smV (fun i => if m.testBit i = true then nI i * opw (ork c nl i) else 0) nl 0 0
def oB (c : Nat → Int32) (m j b : Nat) : Prop := b < j ∧ m.testBit b = false ∧ ∀ i, i < j → m.testBit i = false → i = b ∨ olt c b i = true
theorem oI_0 {c : Nat → Int32} {nl : Nat} : oI c nl 0 0 0 := by
  refine ⟨by omega, ocn_no _ _ fun i _ _ => Nat.zero_testBit i, fun i j _ _ h _ => ?_, (smV_0 _ _ _ fun i _ _ => ?_).symm⟩
  · rw [Nat.zero_testBit] at h
    cases h
  · rw [Nat.zero_testBit]
    rfl
theorem oI_s {c : Nat → Int32} {nl m n b : Nat} {D : Int32} (hn : nl ≤ 6) (h : oI c nl m n D) (hb : oB c m nl b) : oI c nl (m ||| 2 ^ b) (n + 1) (D + nI b * opw n) := by
  obtain ⟨h1, h2, h3, rfl⟩ := h
  obtain ⟨b1, b2, b3⟩ := hb
  have hbit : ∀ i, i ≠ b → m.testBit i = (m ||| 2 ^ b).testBit i := fun i hi => by
    rw [bit_3, decide_eq_false (fun q => hi q.symm), Bool.or_false]
  have hbb : (m ||| 2 ^ b).testBit b = true := by rw [bit_3, decide_eq_true rfl, Bool.or_true]
  have hr : ork c nl b = n := by
    rw [← h2]
    unfold ork
    refine ocn_cg _ _ fun j _ hj => ?_
    show olt c j b = m.testBit j
    cases w : m.testBit j
    · rw [olt_no]
      rcases b3 j (by omega) w with rfl | h
      · omega
      · rw [olt_iff] at h
        omega
    · exact h3 j b (by omega) b1 w b2
  refine ⟨(bit_2 h1 (by omega)).2, ?_, fun i j hi hj wi wj => ?_, ?_⟩
  · rw [ocn_add (p := fun i => m.testBit i) (b := b) b2 hbb nl 0 (by omega) (by omega) hbit, h2]
  · have hjb : j ≠ b := fun e => by rw [e, hbb] at wj; cases wj
    rw [← hbit j hjb] at wj
    by_cases e : i = b
    · rw [e]
      exact (b3 j hj wj).resolve_left hjb
    · rw [← hbit i e] at wi
      exact h3 i j hi hj wi wj
  · refine (smV_add (b := b) ?_ nl 0 0 (by omega) (by omega) fun i hi => ?_).symm
    · rw [if_pos hbb, b2, if_neg (by decide), hr, Int32.zero_add]
    · rw [hbit i hi]
theorem oI_end {c : Nat → Int32} {nl m : Nat} {D : Int32} (h : oI c nl m nl D) : D = ordV c nl := by
  obtain ⟨h1, h2, h3, rfl⟩ := h
  unfold ordV
  refine smV_cg _ _ _ fun i _ hi => ?_
  rw [ocn_all nl 0 h2 i (by omega) hi, if_pos rfl]
theorem oB_new {c : Nat → Int32} {m j : Nat} (hT : ∀ i, i < j → m.testBit i = true) (hj : m.testBit j = false) : oB c m (j + 1) j := ⟨by omega, hj, fun i hi w => Or.inl (by
  by_cases e : i = j
  · exact e
  · rw [hT i (by omega)] at w
    cases w)⟩
theorem oB_keep {c : Nat → Int32} {m j b : Nat} (h : oB c m j b) (hj : m.testBit j = true ∨ c b ≤ c j) : oB c m (j + 1) b := by
  obtain ⟨b1, b2, b3⟩ := h
  refine ⟨by omega, b2, fun i hi w => ?_⟩
  by_cases e : i = j
  · subst e
    rcases hj with h | h
    · rw [h] at w
      cases w
    · refine Or.inr (olt_iff.mpr ?_)
      rw [i32_le] at h
      omega
  · exact b3 i (by omega) w
theorem oB_take {c : Nat → Int32} {m j b : Nat} (h : oB c m j b) (hj : m.testBit j = false) (hc : ¬ c b ≤ c j) : oB c m (j + 1) j := by
  obtain ⟨b1, b2, b3⟩ := h
  refine ⟨by omega, hj, fun i hi w => ?_⟩
  rw [i32_le] at hc
  by_cases e : i = j
  · exact Or.inl e
  · refine Or.inr (olt_iff.mpr ?_)
    rcases b3 i (by omega) w with rfl | h
    · omega
    · rw [olt_iff] at h
      omega
theorem olt_1 {c : Nat → Int32} {a b : Nat} (h : c a < c b) : olt c a b = true := by
  rw [i32_lt] at h
  exact olt_iff.mpr (Or.inl h)
theorem olt_2 {c : Nat → Int32} {a b : Nat} (h : ¬ c a < c b) (h2 : c a ≠ c b) : olt c a b = false := by
  rw [i32_lt] at h
  have h3 : (c a).toInt ≠ (c b).toInt := fun q => h2 (Int32.toInt_inj.mp q)
  exact olt_no.mpr (by omega)
theorem olt_3 {c : Nat → Int32} {a b : Nat} (h2 : ¬ c a ≠ c b) (h : a < b) : olt c a b = true := by
  have h3 : c a = c b := Decidable.not_not.mp h2
  exact olt_iff.mpr (Or.inr ⟨by rw [h3], h⟩)
theorem olt_4 {c : Nat → Int32} {a b : Nat} (h1 : ¬ c a < c b) (h : b ≤ a) : olt c a b = false := by
  rw [i32_lt] at h1
  exact olt_no.mpr (by omega)
