/-! the small machine's states beside the machine's: names are places of a list of cells, ad gives their addresses -/
abbrev MK : Type := va_G × (ClassId × ClassId × ClassId × ClassId) × (Nat → Prop) × Value × (Nat → Nat) × Nat × (Nat → Int32)
abbrev mkA (K : MK) : Nat → Prop := K.2.2.1
abbrev mkZ (K : MK) : Value := K.2.2.2.1
abbrev mkS (K : MK) : Nat → Nat := K.2.2.2.2.1
def mjrf (d : String) : Bool := !(d == "I" || d == "Z")
def mjfv (ad : Nat → Nat) (h : MH) (k : Nat) (T : u_T) (j : Nat) : Value := bif mjrf (T j).2.2.1 then va_rf ((mjP h k j).map ad) else .int (mjI h k j)
def mjov (ad : Nat → Nat) (h : MH) (k : Nat) (q : vw_C) : List Value := (List.range q.2.2).map (mjfv ad h k q.2.1)
def mjcel (K : MK) (ad : Nat → Nat) (h : MH) (k : Nat) : va_E :=
  if (mjT h k).1 = 13 then .inl (K.2.1.1, (mjT h k).2, .inl (mjI h k))
  else if (mjT h k).1 = 14 then .inl (K.2.1.2.1, (mjT h k).2, .inr (.inr (.inr (.inr (fun j => (mjP h k j).map ad)))))
  else if (mjT h k).1 = 15 then .inl (K.2.1.2.2.1, (mjT h k).2, .inr (.inr (.inr (.inr (fun j => (mjP h k j).map ad)))))
  else if (mjT h k).1 = 16 then .inl (K.2.1.2.2.2, (mjT h k).2, .inr (.inl (mjL h k)))
  else .inr ((mjT h k).1, match vwCl[(mjT h k).1]? with | some q => mjov ad h k q | none => [])
def mjw (K : MK) (ad : Nat → Nat) (h : MH) : va_W := (List.range (mjN h)).map (fun k => (ad k, mjcel K ad h k))
theorem mjw_at {K : MK} {ad : Nat → Nat} {h : MH} {k : Nat} (hk : k < mjN h) : (mjw K ad h)[k]? = some (ad k, mjcel K ad h k) := by
  simp [mjw, List.getElem?_range, hk]
theorem mjw_no {K : MK} {ad : Nat → Nat} {h : MH} {k : Nat} (hk : ¬ k < mjN h) : (mjw K ad h)[k]? = none := by
  simp [mjw]
  omega
theorem mjw_len {K : MK} {ad : Nat → Nat} {h : MH} : (mjw K ad h).length = mjN h := by simp [mjw]
def mjWd (K : MK) (ad : Nat → Nat) (h : MH) (H : Heap) : Prop :=
  va_P K.1 vwCl (mjw K ad h) H ∧ va_D (mkA K) (mjw K ad h) ∧ (∀ k j n : Nat, mjP h k j = some n → n < mjN h ∨ 1000000 ≤ n) ∧ mjN h ≤ 900000 ∧ (∀ k, 1000000 ≤ k → ad k = mkS K k) ∧ mjI h 2000000 = K.2.2.2.2.2.2 ∧ (mjT h 2000000).2 = K.2.2.2.2.2.1
def mjExt (ad ad' : Nat → Nat) (N : Nat) : Prop := ∀ k, k < N ∨ 1000000 ≤ k → ad' k = ad k
theorem mjExt.rf {ad : Nat → Nat} {N : Nat} : mjExt ad ad N := fun _ _ => rfl
theorem mjExt.trans {a b c : Nat → Nat} {N M : Nat} (h : mjExt a b N) (h2 : mjExt b c M) (hNM : N ≤ M) : mjExt a c N := fun k hk => by
  rw [h2 k (hk.elim (fun h => Or.inl (Nat.lt_of_lt_of_le h hNM)) Or.inr), h k hk]
def mjrn (z : Value) (ad : Nat → Nat) : Value → Value
  | .ref k => .ref (ad k)
  | .retAddr _ => z
  | v => v
def mjsc (N : Nat) : Value → Prop
  | .ref k => k < N ∨ 1000000 ≤ k
  | _ => True
theorem mjrn_ext {z : Value} {ad ad' : Nat → Nat} {N : Nat} (h : mjExt ad ad' N) {v : Value} (hv : mjsc N v) : mjrn z ad' v = mjrn z ad v := by
  cases v with
  | ref k => exact congrArg Value.ref (h k hv)
  | _ => rfl
theorem mjsc_mono {N M : Nat} (h : N ≤ M) {v : Value} (hv : mjsc N v) : mjsc M v := by
  cases v with
  | ref k => exact hv.elim (fun q => Or.inl (Nat.lt_of_lt_of_le q h)) Or.inr
  | _ => exact trivial
theorem mjrn_map {z : Value} {ad ad' : Nat → Nat} {N : Nat} (h : mjExt ad ad' N) {l : List Value} (hl : ∀ v ∈ l, mjsc N v) : l.map (mjrn z ad') = l.map (mjrn z ad) :=
  List.map_congr_left fun v hv => mjrn_ext h (hl v hv)
theorem mjrn_cat {z : Value} (hz : z.category = 1) {ad : Nat → Nat} {v : Value} : (mjrn z ad v).category = v.category := by
  cases v <;> first | rfl | exact hz
theorem mjrn_sum {z : Value} (hz : z.category = 1) {ad : Nat → Nat} (l : List Value) : ((l.map (mjrn z ad)).map fun v => v.category).sum = (l.map fun v => v.category).sum := by
  induction l with
  | nil => rfl
  | cons a l ih => simp only [List.map_cons, List.sum_cons, ih, mjrn_cat hz]
theorem mjrn_rf {z : Value} {ad : Nat → Nat} (o : Option Nat) : mjrn z ad (va_rf o) = va_rf (o.map ad) := by cases o <;> rfl
theorem mjsc_rf {N : Nat} {o : Option Nat} (h : ∀ n, o = some n → n < N ∨ 1000000 ≤ n) : mjsc N (va_rf o) := by
  cases o with
  | none => exact trivial
  | some n => exact h n rfl
def mjlr (z : Value) (ad : Nat → Nat) (nL : Nat) (al : List (Option Value)) (ls : Array Slot) : Prop :=
  ls.size = nL ∧ al.length = nL ∧ lv_wf ls ∧ ∀ (i : Nat) (v : Value), (al[i]? = some (some v) → ls[i]? = some (Slot.val (mjrn z ad v)) ∧ v.category = 1)
def mjasc (z : Value) (ad : Nat → Nat) (al : List (Option Value)) : List (Nat × Value) := (List.range al.length).filterMap (fun i => match al[i]? with
  | some (some v) => some (i, mjrn z ad v)
  | _ => none)
theorem mjasc_in {z : Value} {ad : Nat → Nat} {al : List (Option Value)} {i : Nat} {v : Value} (h : al[i]? = some (some v)) : (i, mjrn z ad v) ∈ mjasc z ad al := by
  refine List.mem_filterMap.mpr ⟨i, List.mem_range.mpr (List.getElem?_eq_some_iff.mp h).1, ?_⟩
  simp [h]
theorem mjasc_of {z : Value} {ad : Nat → Nat} {al : List (Option Value)} {q : Nat × Value} (h : q ∈ mjasc z ad al) : ∃ v, al[q.1]? = some (some v) ∧ q.2 = mjrn z ad v := by
  obtain ⟨i, -, hi⟩ := List.mem_filterMap.mp h
  split at hi
  · rename_i v hv
    cases hi
    exact ⟨v, hv, rfl⟩
  · cases hi
theorem mjlr.has {z : Value} {ad : Nat → Nat} {nL : Nat} {al : List (Option Value)} {ls : Array Slot} (h : mjlr z ad nL al ls) : lv_has ls nL (mjasc z ad al) := by
  refine ⟨h.1, h.2.2.1, fun q hq => ?_⟩
  obtain ⟨v, h1, h2⟩ := mjasc_of hq
  rw [h2]
  exact (h.2.2.2 _ _ h1).1
theorem mjlr_store {z : Value} (hz : z.category = 1) {ad : Nat → Nat} {nL : Nat} {al : List (Option Value)} {ls ls' : Array Slot} {i : Nat} {v : Value} (h : mjlr z ad nL al ls) (hv1 : v.category = 1)
    (h' : lv_has ls' nL ((i, mjrn z ad v) :: (mjasc z ad al).filter (fun q => !(q.1 == i) && !(q.1 + 1 == i && q.2.category == 2)))) : mjlr z ad nL (al.set i (some v)) ls' := by
  refine ⟨h'.1, by rw [List.length_set]; exact h.2.1, h'.2.1, fun j w hj => ?_⟩
  by_cases e : i = j
  · subst e
    have hi : i < al.length := by
      have := (List.getElem?_eq_some_iff.mp hj).1
      rwa [List.length_set] at this
    rw [List.getElem?_set_self hi] at hj
    cases hj
    exact ⟨h'.2.2 (i, mjrn z ad v) List.mem_cons_self, hv1⟩
  · rw [List.getElem?_set_ne e] at hj
    have hw := (h.2.2.2 j w hj).2
    refine ⟨h'.2.2 (j, mjrn z ad w) (List.mem_cons_of_mem _ (List.mem_filter.mpr ⟨mjasc_in hj, ?_⟩)), hw⟩
    have h1 : (j == i) = false := by simp; exact fun q => e q.symm
    simp [mjrn_cat hz, hw, h1]
theorem mjlr_ext {z : Value} {ad ad' : Nat → Nat} {N nL : Nat} {al : List (Option Value)} {ls : Array Slot} (h : mjlr z ad nL al ls) (he : mjExt ad ad' N) (hs : ∀ v, some v ∈ al → mjsc N v) : mjlr z ad' nL al ls := by
  refine ⟨h.1, h.2.1, h.2.2.1, fun i v hv => ?_⟩
  rw [mjrn_ext he (hs v (List.mem_of_getElem? hv))]
  exact h.2.2.2 i v hv
/-- a frame of the small machine beside one of the machine -/
def mjFr (K : MK) (ad : Nat → Nat) (nL : Nat) (F : MF) (ls : Array Slot) : Prop :=
  mjlr (mkZ K) ad nL F.1 ls ∧ (∀ v ∈ F.2.1, mjsc (mjN F.2.2) v) ∧ ∀ v, some v ∈ F.1 → mjsc (mjN F.2.2) v
theorem mjini_lr {z : Value} (hz : z.category = 1) {ad : Nat → Nat} {nL : Nat} {as : List Value} (hn : as.length ≤ nL) (hc : ∀ v ∈ as, v.category = 1) {ls : Array Slot} (h : lv_has ls nL (lv_args 0 (as.map (mjrn z ad)))) : mjlr z ad nL (mjini nL as) ls := by
  refine ⟨h.1, by simp [mjini]; omega, h.2.1, fun i v hv => ?_⟩
  have key : ∀ (l : List Value) (b : Nat), (∀ v ∈ l, v.category = 1) → ∀ (j : Nat) (w : Value), l[j]? = some w → (b + j, mjrn z ad w) ∈ lv_args b (l.map (mjrn z ad)) := by
    intro l
    induction l with
    | nil => intro b _ j w hw; simp at hw
    | cons a l ih =>
      intro b hl j w hw
      rw [List.map_cons, lv_args, if_neg (by rw [mjrn_cat hz, hl a List.mem_cons_self]; decide)]
      cases j with
      | zero =>
        simp at hw
        subst hw
        exact List.mem_cons_self
      | succ j =>
        simp at hw
        have := ih (b + 1) (fun v hv => hl v (List.mem_cons_of_mem _ hv)) j w hw
        rw [show b + 1 + j = b + (j + 1) by omega] at this
        exact List.mem_cons_of_mem _ this
  have hi : as[i]? = some v := by
    unfold mjini at hv
    by_cases q : i < as.length
    · rw [List.getElem?_append_left (by simpa using q)] at hv
      simp at hv
      simpa using hv
    · rw [List.getElem?_append_right (by simp; omega)] at hv
      rw [List.getElem?_replicate] at hv
      split at hv <;> cases hv
  have := h.2.2 _ (key as 0 hc i v hi)
  exact ⟨by simpa using this, hc v (List.mem_of_getElem? hi)⟩
