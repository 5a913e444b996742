/-! what the law begins its loop with -/
theorem mjfix_j {a j : Nat} (h : 45 ≤ j) : mjfix a j = none := by
  have hb : ∀ c, c < 45 → Nat.ble j c = false := fun c hc => ble_no (by omega)
  have hq : ∀ c, c < 45 → Nat.beq j c = false := fun c hc => by
    cases e : Nat.beq j c
    · rfl
    · have := Nat.eq_of_beq_eq_true e
      omega
  unfold mjfix
  simp [hb, hq]
theorem cs_fP : mjfP (cs148 (fun _ => 0) 0).2.1 = (cs148 (fun _ => 0) 0).2.1 := by
  funext a j
  unfold mjfP
  cases e : mjfix a j with
  | none => rfl
  | some k =>
    have ha : a < 75 := Nat.lt_of_not_le fun w => by rw [mjfix_hi w] at e; cases e
    have hj : j < 45 := Nat.lt_of_not_le fun w => by rw [mjfix_j w] at e; cases e
    rcases cs_P ⟨a, ha⟩ ⟨j, hj⟩ with h | h
    · have h : mjfix a j = none := h
      rw [h] at e
      cases e
    · have h : (cs148 (fun _ => 0) 0).2.1 a j = mjfix a j := h
      show some k = _
      rw [h, e]
def csX (xs : Nat → Int32) (L : Nat) : MX := ((cs148 xs L).2.1, (cs148 xs L).2.2.1, (cs148 xs L).2.2.2.1, 0, 75, 2137)
theorem cs_eq {xs : Nat → Int32} {L : Nat} : cs148 xs L = mjH (cs148 xs L).1 (csX xs L) := by
  have h1 : mjfP (cs148 xs L).2.1 = (cs148 xs L).2.1 := cs_fP
  have h2 : mjfT (cs148 xs L).2.2.2.1 = (cs148 xs L).2.2.2.1 := by
    funext a
    unfold mjfT
    cases e : Nat.blt a 75
    · rfl
    · have ha : a < 75 := by simpa [Nat.blt_eq] using e
      exact (cs_T a ha).symm
  show _ = ((cs148 xs L).1, mjfP (cs148 xs L).2.1, (cs148 xs L).2.2.1, mjfT (cs148 xs L).2.2.2.1, 0 + 75, 75, 2137)
  rw [h1, h2]
  rfl
theorem cs_RI {xs : Nat → Int32} {L : Nat} : RI (cs148 xs L).1 (csX xs L) := by
  refine ⟨⟨0, 0, 0, 0, ?_⟩, ⟨0, 0, 0, 0, ?_⟩, fun e he => ⟨0, 0, 0, ?_⟩, ⟨rfl, Or.inl rfl⟩, fun k i hk hi => Or.inl ?_⟩
  · exact ⟨⟨rfl, rfl⟩, ⟨rfl, rfl⟩, ⟨rfl, rfl⟩, ⟨rfl, rfl⟩, ⟨rfl, rfl, rfl, rfl⟩, ⟨by omega, fun k hk => absurd hk (Nat.not_lt_zero _)⟩, ⟨by omega, fun p hp => absurd hp (Nat.not_lt_zero _), fun p q _ hq => absurd hq (Nat.not_lt_zero _)⟩, by omega, by omega, fun i hi => absurd hi (Nat.not_lt_zero _)⟩
  · exact ⟨⟨rfl, rfl⟩, ⟨rfl, rfl⟩, ⟨rfl, rfl⟩, ⟨rfl, rfl⟩, ⟨rfl, rfl, rfl, rfl⟩, ⟨by omega, fun k hk => absurd hk (Nat.not_lt_zero _)⟩, ⟨by omega, fun p hp => absurd hp (Nat.not_lt_zero _), fun p q _ hq => absurd hq (Nat.not_lt_zero _)⟩, by omega, by omega, fun i hi => absurd hi (Nat.not_lt_zero _)⟩
  · match e, he with
    | 0, _ => exact ⟨⟨rfl, rfl⟩, ⟨rfl, rfl⟩, ⟨rfl, rfl⟩, ⟨by omega, by omega, by omega⟩, fun _ _ => rfl, fun h => absurd h (by decide)⟩
    | 1, _ => exact ⟨⟨rfl, rfl⟩, ⟨rfl, rfl⟩, ⟨rfl, rfl⟩, ⟨by omega, by omega, by omega⟩, fun _ _ => rfl, fun h => absurd h (by decide)⟩
    | 2, _ => exact ⟨⟨rfl, rfl⟩, ⟨rfl, rfl⟩, ⟨rfl, rfl⟩, ⟨by omega, by omega, by omega⟩, fun _ _ => rfl, fun h => absurd h (by decide)⟩
    | 3, _ => exact ⟨⟨rfl, rfl⟩, ⟨rfl, rfl⟩, ⟨rfl, rfl⟩, ⟨by omega, by omega, by omega⟩, fun _ _ => rfl, fun h => absurd h (by decide)⟩
    | 4, _ => exact ⟨⟨rfl, rfl⟩, ⟨rfl, rfl⟩, ⟨rfl, rfl⟩, ⟨by omega, by omega, by omega⟩, fun _ _ => rfl, fun h => absurd h (by decide)⟩
    | 5, _ => exact ⟨⟨rfl, rfl⟩, ⟨rfl, rfl⟩, ⟨rfl, rfl⟩, ⟨by omega, by omega, by omega⟩, fun _ _ => rfl, fun h => absurd h (by decide)⟩
    | 6, _ => exact ⟨⟨rfl, rfl⟩, ⟨rfl, rfl⟩, ⟨rfl, rfl⟩, ⟨by omega, by omega, by omega⟩, fun _ _ => rfl, fun h => absurd h (by decide)⟩
    | 7, _ => exact ⟨⟨rfl, rfl⟩, ⟨rfl, rfl⟩, ⟨rfl, rfl⟩, ⟨by omega, by omega, by omega⟩, fun _ _ => rfl, fun h => absurd h (by decide)⟩
    | n + 8, h => omega
  · rcases hk with rfl | rfl <;> rfl
