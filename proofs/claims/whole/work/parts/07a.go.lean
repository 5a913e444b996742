/-! runs of the program: rules -/
theorem mjX_le {n m d i pc : Nat} {F : MF} {r : MO × MH} (h : n ≤ m) (hx : mjX mjPr mjnlc n d i pc F = some r) : mjX mjPr mjnlc m d i pc F = some r := by
  have key : ∀ (n d i pc : Nat) (F : MF) (r : MO × MH), mjX mjPr mjnlc n d i pc F = some r → mjX mjPr mjnlc (n + 1) d i pc F = some r := by
    intro n
    induction n with
    | zero => intro d i pc F r h; cases h
    | succ n ih =>
      intro d i pc F r h
      rw [mjX] at h ⊢
      have hc : ∀ j as h x, mjdn d (fun d' j as h => mjX mjPr mjnlc n d' j 0 (mjini (mjnlc j) as, [], h)) j as h = some x → mjdn d (fun d' j as h => mjX mjPr mjnlc (n + 1) d' j 0 (mjini (mjnlc j) as, [], h)) j as h = some x := by
        intro j as h x hx
        cases d with
        | zero => cases hx
        | succ d' => exact ih _ _ _ _ _ hx
      split at h
      · cases h
      · rename_i q hq
        rw [mjPr_mn i pc _ _ F _ hc hq]
        exact ih _ _ _ _ _ h
      · rename_i q hq
        rw [mjPr_mn i pc _ _ F _ hc hq]
        exact h
  induction h with
  | refl => exact hx
  | step _ ih => exact key _ _ _ _ _ _ ih
def mjGo (d i pc : Nat) (F : MF) (r : MO × MH → Prop) : Prop := ∃ n x, mjX mjPr mjnlc n d i pc F = some x ∧ r x
theorem mjEv.of {d i : Nat} {as : List Value} {h h2 : MH} {o : MO} (g : mjGo d i 0 (mjini (mjnlc i) as, [], h) (fun x => x = (o, h2))) : mjEv d i as h o h2 := by
  obtain ⟨n, x, hn, rfl⟩ := g
  exact ⟨n, hn⟩
/-- an answer and cells of which something is said -/
def mjEvP (d i : Nat) (as : List Value) (h : MH) (Φ : Option Value → MH → Prop) : Prop := ∃ o h2, mjEv d i as h (.inl o) h2 ∧ Φ o h2
theorem mjEvP.of {d i : Nat} {as : List Value} {h : MH} {Φ : Option Value → MH → Prop} (g : mjGo d i 0 (mjini (mjnlc i) as, [], h) (fun x => ∃ o, x.1 = .inl o ∧ Φ o x.2)) : mjEvP d i as h Φ := by
  obtain ⟨n, ⟨o9, h9⟩, hn, o, rfl, h⟩ := g
  exact ⟨o, h9, ⟨n, hn⟩, h⟩
theorem mjGo.run (k : Nat) {d i pc pc' : Nat} {F F' : MF} {r : MO × MH → Prop} (h : ∀ n, mjX mjPr mjnlc (n + k) d i pc F = mjX mjPr mjnlc n d i pc' F') (g : mjGo d i pc' F' r) : mjGo d i pc F r := by
  obtain ⟨n, x, hn, hx⟩ := g
  exact ⟨n + k, x, (h n).trans hn, hx⟩
theorem mjGo.ret (k : Nat) {d i pc : Nat} {F : MF} {x : MO × MH} {r : MO × MH → Prop} (h : ∀ n, mjX mjPr mjnlc (n + k) d i pc F = some x) (hx : r x) : mjGo d i pc F r := ⟨k, x, by have := h 0; rwa [Nat.zero_add] at this, hx⟩
theorem mjGo.op {d i pc pc' : Nat} {F F' : MF} {r : MO × MH → Prop} {o : MOp} (hp : mjPr i pc = o) (h : ∀ call, o call F = some (.inl (pc', F'))) (g : mjGo d i pc' F' r) : mjGo d i pc F r := by
  obtain ⟨n, x, hn, hx⟩ := g
  refine ⟨n + 1, x, ?_, hx⟩
  rw [mjX, hp, h]
  exact hn
theorem mjGo.call {d i pc nx n j : Nat} {al : List (Option Value)} {st : List Value} {h h' : MH} {o : Option Value} {r : MO × MH → Prop} (hp : ∀ call, mjPr i pc call (al, st, h) = mjcont (al, st, h) n nx (call j (st.take n).reverse h)) (h1 : mjEv d j (st.take n).reverse h (.inl o) h')
    (g : mjGo (d + 1) i nx (al, o.toList ++ st.drop n, h') r) : mjGo (d + 1) i pc (al, st, h) r := by
  obtain ⟨n1, h1⟩ := h1
  obtain ⟨n2, x, h2, hx⟩ := g
  refine ⟨max n1 n2 + 1, x, ?_, hx⟩
  have h1 := mjX_le (Nat.le_max_left n1 n2) h1
  have h2 := mjX_le (Nat.le_max_right n1 n2) h2
  rw [mjX, hp]
  show (match mjcont (al, st, h) n nx (mjX mjPr mjnlc (max n1 n2) d j 0 (mjini (mjnlc j) (st.take n).reverse, [], h)) with | none => none | some (.inl q) => mjX mjPr mjnlc (max n1 n2) (d + 1) i q.1 q.2 | some (.inr r) => some r) = some x
  rw [h1]
  exact h2
/-! the cells: the first 75 places are the object, the reference and the law's row, as their constructors lay them -/
abbrev MX : Type := (Nat → Nat → Option Nat) × (Nat → Nat → Int64) × (Nat → Nat × Nat) × Nat × Nat × Nat
theorem mjGo.br {c : Prop} [Decidable c] {d i a b : Nat} {F : MF} {r : MO × MH → Prop} (h1 : c → mjGo d i a F r) (h2 : ¬ c → mjGo d i b F r) : mjGo d i (bif decide c then a else b) F r := by
  by_cases h : c
  · rw [decide_eq_true h]
    exact h1 h
  · rw [decide_eq_false h]
    exact h2 h
theorem mjin_n {j n : Nat} (hj : j < n) (hn : n < 2 ^ 31) : mjin (nI j) n = true := by
  unfold mjin
  rw [nI_clamp (by omega), decide_eq_true (nI_pos' (by omega)), decide_eq_true hj]
  rfl
theorem mjald_i {al : List (Option Value)} {r : List Value} {k n nx : Nat} {i : Int32} {h : MH} {call : MCall} (hg : mjin i n = true) (hk : (Nat.blt k (mjN h) && (mjT h k).1 == 13) = true) (hn : (mjT h k).2 = n) : mjiald nx call (al, .int i :: .ref k :: r, h) = some (.inl (nx, (al, .int (mjI h k i.toNatClampNeg) :: r, h))) := by
  unfold mjiald
  show (bif (Nat.blt k (mjN h) && (mjT h k).1 == 13) && mjin i (mjT h k).2 then _ else none) = _
  rw [hk, hn, hg]
  rfl
theorem mjald_n {al : List (Option Value)} {r : List Value} {k n nx j : Nat} {h : MH} {call : MCall} (hj : j < n) (hn2 : n < 2 ^ 31) (hk : (Nat.blt k (mjN h) && (mjT h k).1 == 13) = true) (hn : (mjT h k).2 = n) : mjiald nx call (al, .int (nI j) :: .ref k :: r, h) = some (.inl (nx, (al, .int (mjI h k j) :: r, h))) := by
  rw [mjald_i (mjin_n hj hn2) hk hn, nI_clamp (by omega)]
theorem mjast_i {al : List (Option Value)} {r : List Value} {k n nx : Nat} {i x : Int32} {h : MH} {call : MCall} (hg : mjin i n = true) (hk : (Nat.blt k (mjN h) && (mjT h k).1 == 13) = true) (hn : (mjT h k).2 = n) : mjiast nx call (al, .int x :: .int i :: .ref k :: r, h) = some (.inl (nx, (al, r, mjsI h k i.toNatClampNeg x))) := by
  unfold mjiast
  show (bif (Nat.blt k (mjN h) && (mjT h k).1 == 13) && mjin i (mjT h k).2 then _ else none) = _
  rw [hk, hn, hg]
  rfl
theorem mjast_n {al : List (Option Value)} {r : List Value} {k n nx j : Nat} {x : Int32} {h : MH} {call : MCall} (hj : j < n) (hn2 : n < 2 ^ 31) (hk : (Nat.blt k (mjN h) && (mjT h k).1 == 13) = true) (hn : (mjT h k).2 = n) : mjiast nx call (al, .int x :: .int (nI j) :: .ref k :: r, h) = some (.inl (nx, (al, r, mjsI h k j x))) := by
  rw [mjast_i (mjin_n hj hn2) hk hn, nI_clamp (by omega)]
theorem mjGo.zret {d i pc : Nat} {al : List (Option Value)} {x : Int32} {h : MH} {r : MO × MH → Prop} (hp : mjPr i pc = mjzret) (hz : x = 0 ∨ x = 1) (hx : r (.inl (some (.int x)), h)) : mjGo d i pc (al, [.int x], h) r := by
  refine ⟨1, _, ?_, hx⟩
  rw [mjX, hp]
  show (match (bif decide (x = 0) || decide (x = 1) then some (.inr (.inl (some (.int x)), h)) else none : Option ((Nat × MF) ⊕ (MO × MH))) with | none => none | some (.inl q) => mjX mjPr mjnlc 0 d i q.1 q.2 | some (.inr r) => some r) = _
  rcases hz with rfl | rfl <;> rfl
