/-! element: class and reference -/
theorem el_eq {I : Nat → Nat → Int32} {n : Nat} {v : Int32} : eqN n I (mjU I 43 40 v) := fun k j hs _ => by
  show (if k = 43 then (if j = 40 then v else I k j) else I k j) = I k j
  by_cases e : k = 43
  · subst e
    by_cases e2 : j = 40
    · subst e2
      exact absurd hs (by decide)
    · rw [if_pos rfl, if_neg e2]
  · rw [if_neg e]
theorem el_at {I : Nat → Nat → Int32} {v : Int32} : mjU I 43 40 v 43 40 = v := by
  show (if 43 = 43 then (if 40 = 40 then v else I 43 40) else I 43 40) = v
  rw [if_pos rfl, if_pos rfl]
def elX (X : MX) : Int64 ⊕ String → MX
  | .inl b => (X.1, mjU X.2.1 74 0 b, X.2.2.1, X.2.2.2.1, X.2.2.2.2.1 + 1, X.2.2.2.2.2 + 6)
  | .inr _ => bpX X
theorem elh_eq {I : Nat → Nat → Int32} {X : MX} (r : Int64 ⊕ String) : elh (mjBp (mjH I X)) r = mjH I (elX X r) := by
  cases r <;> rfl
theorem elX_xle {X : MX} (r : Int64 ⊕ String) : xle X (elX X r) := by
  cases r
  · exact ⟨fun _ _ _ => rfl, fun _ _ => rfl, Nat.le_refl _⟩
  · exact ⟨fun _ _ _ => rfl, fun _ _ => rfl, Nat.le_refl _⟩
theorem elX_n {X : MX} (r : Int64 ⊕ String) : (elX X r).2.2.2 = (X.2.2.2.1, X.2.2.2.2.1 + 1, X.2.2.2.2.2 + 6) := by
  cases r <;> rfl
def elS (I : Nat → Nat → Int32) (p q : Int32) (r : Int64 ⊕ String) (b : Int64) (I3 : Nat → Nat → Int32) : Prop := (∀ E, r = .inr E → E = "java/lang/IllegalArgumentException" ∨ E = "java/lang/IllegalStateException") ∧ (∀ b', r = .inl b' → b = b') ∧ I3 43 40 = elk r ∧ (∀ n, eqN n I I3) ∧ ∀ (d : Nat) (X9 : MX), mjEv (d + 12) nyX12_element [.ref 43, .int p, .int q] (mjH I X9) (.inl (some (.long b))) (mjH I3 X9)
theorem c_elem {K : MK} {l : Launch} (hl : l.stackTraces = false) {I : Nat → Nat → Int32} {X : MX} (hR : RI I X) (p q : Int32) : ∃ r b I3, mjElC K l (mjH I X) p q r ∧ elS I p q r b I3 := by
  have h0 : 0 < mjN (mjH I X) := by show 0 < X.2.2.2.1 + 75; omega
  rcases shelf_cases p with ⟨e, he, rfl⟩ | ⟨h1, h2⟩
  · obtain ⟨sz, so, hh, ⟨z1, z2⟩, ⟨s1, s2⟩, ⟨g3, g4⟩, ⟨g5, g6, g7⟩, g8, g9⟩ := hR.sh he
    match hh, g7 with
    | 0, _ => exact ⟨.inr "java/lang/IllegalStateException", 0, _, x_elB hl h0 (w_xElB 3 he (by rw [g3]; decide)), fun E h => (by cases h; exact Or.inr rfl), fun b' h => (by cases h), el_at, fun n => el_eq.trans el_eq (Nat.le_refl n), fun d X9 => c_mElB (d + 9) he (by rw [g4]; decide)⟩
    | 1, _ => exact ⟨.inr "java/lang/IllegalStateException", 0, _, x_elB hl h0 (w_xElB 3 he (by rw [g3]; decide)), fun E h => (by cases h; exact Or.inr rfl), fun b' h => (by cases h), el_at, fun n => el_eq.trans el_eq (Nat.le_refl n), fun d X9 => c_mElB (d + 9) he (by rw [g4]; decide)⟩
    | 2, _ =>
      by_cases h : mIn q 0 (nI sz - 1) = 0
      · exact ⟨.inr "java/lang/IllegalStateException", 0, _, x_elC hl h0 (w_xElC 3 he g3 z1 g5 h), fun E h => (by cases h; exact Or.inr rfl), fun b' h => (by cases h), el_at, fun n => el_eq.trans el_eq (Nat.le_refl n), fun d X9 => c_mElC (d + 9) he g4 z2 h⟩
      · obtain ⟨j, hj, rfl⟩ := mIn_no h (by omega)
        refine ⟨.inl (I (28 + 2 * e) j).toInt64, _, mjU I 43 40 0, x_elD h0 (w_xElD 3 he g3 z1 g5 hj), fun E h => (by cases h), fun b' h => (by cases h; rfl), el_at, fun n => el_eq, fun d X9 => ?_⟩
        rw [g8 j (by omega)]
        exact c_mElD (d + 9) he g4 z2 g5 hj
  · exact ⟨.inr "java/lang/IllegalArgumentException", 0, _, x_elA hl h0 (w_xElA 3 h1), fun E h => (by cases h; exact Or.inl rfl), fun b' h => (by cases h), el_at, fun n => el_eq, fun d X9 => c_mElA (d + 9) h2⟩
