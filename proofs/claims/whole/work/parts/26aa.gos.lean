/-! runs in part: rules -/
theorem mjcl_le {N N' d : Nat} (h : N ≤ N') : ∀ j as h x, mjcl N d j as h = some x → mjcl N' d j as h = some x := by
  intro j as h9 x hx
  cases d with
  | zero => cases hx
  | succ d' => exact mjX_le h hx
theorem mjXS_le {PL : Nat → MOp} (hm : ∀ pc, mjMn (PL pc)) {N N' d : Nat} (h : N ≤ N') : ∀ (n pc : Nat) (F : MF) (q : Nat × MF), mjXS PL (mjcl N d) n pc F = some q → mjXS PL (mjcl N' d) n pc F = some q := by
  intro n
  induction n with
  | zero => intro pc F q hx; exact hx
  | succ n ih =>
    intro pc F q hx
    rw [mjXS] at hx ⊢
    split at hx
    · rename_i q9 hq
      rw [hm pc _ _ F _ (mjcl_le h) hq]
      exact ih _ _ _ hx
    · cases hx
def mjGoS (PL : Nat → MOp) (d pc : Nat) (F : MF) (r : Nat × MF → Prop) : Prop := ∃ N n x, mjXS PL (mjcl N d) n pc F = some x ∧ r x
theorem mjGoS.done {PL : Nat → MOp} {d pc : Nat} {F : MF} {r : Nat × MF → Prop} (h : r (pc, F)) : mjGoS PL d pc F r := ⟨0, 0, _, rfl, h⟩
theorem mjGoS.run {PL : Nat → MOp} (k : Nat) {d pc pc' : Nat} {F F' : MF} {r : Nat × MF → Prop} (h : ∀ call n, mjXS PL call (n + k) pc F = mjXS PL call n pc' F') (g : mjGoS PL d pc' F' r) : mjGoS PL d pc F r := by
  obtain ⟨N, n, x, hn, hx⟩ := g
  exact ⟨N, n + k, x, (h _ n).trans hn, hx⟩
theorem mjGoS.op {PL : Nat → MOp} {d pc pc' : Nat} {F F' : MF} {r : Nat × MF → Prop} {o : MOp} (hp : PL pc = o) (h : ∀ call, o call F = some (.inl (pc', F'))) (g : mjGoS PL d pc' F' r) : mjGoS PL d pc F r := by
  obtain ⟨N, n, x, hn, hx⟩ := g
  refine ⟨N, n + 1, x, ?_, hx⟩
  rw [mjXS, hp, h]
  exact hn
theorem mjGoS.call {PL : Nat → MOp} (hm : ∀ pc, mjMn (PL pc)) {d pc nx n j : Nat} {al : List (Option Value)} {st : List Value} {h h' : MH} {o : Option Value} {r : Nat × MF → Prop} (hp : ∀ call, PL pc call (al, st, h) = mjcont (al, st, h) n nx (call j (st.take n).reverse h)) (h1 : mjEv d j (st.take n).reverse h (.inl o) h')
    (g : mjGoS PL (d + 1) nx (al, o.toList ++ st.drop n, h') r) : mjGoS PL (d + 1) pc (al, st, h) r := by
  obtain ⟨n1, h1⟩ := h1
  obtain ⟨N, n2, x, h2, hx⟩ := g
  refine ⟨max n1 N, n2 + 1, x, ?_, hx⟩
  have h1 := mjX_le (Nat.le_max_left n1 N) h1
  have h2 := mjXS_le hm (Nat.le_max_right n1 N) _ _ _ _ h2
  rw [mjXS, hp]
  show (match mjcont (al, st, h) n nx (mjX mjPr mjnlc (max n1 N) d j 0 (mjini (mjnlc j) (st.take n).reverse, [], h)) with | some (.inl q) => mjXS PL (mjcl (max n1 N) (d + 1)) n2 q.1 q.2 | _ => none) = some x
  rw [h1]
  exact h2
theorem mjGoS.brT {PL : Nat → MOp} {c : Prop} [Decidable c] {d a b : Nat} {F : MF} {r : Nat × MF → Prop} (h : c) (g : mjGoS PL d a F r) : mjGoS PL d (bif decide c then a else b) F r := by
  rw [decide_eq_true h]
  exact g
theorem mjGoS.brF {PL : Nat → MOp} {c : Prop} [Decidable c] {d a b : Nat} {F : MF} {r : Nat × MF → Prop} (h : ¬ c) (g : mjGoS PL d b F r) : mjGoS PL d (bif decide c then a else b) F r := by
  rw [decide_eq_false h]
  exact g
