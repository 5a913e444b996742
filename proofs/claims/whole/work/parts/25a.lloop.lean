/-! the law: its loop -/
theorem sldK_op {L : Nat} {xs : Nat → Int32} {nx m : Nat} {e : Int32} {al : List (Option Value)} {r : List Value} {h : MH} {call : MCall} (he : e = nI m) (hm : m < L) (hL : L ≤ 3072) : mjsldK L xs nx call (al, .int e :: .ref 2000000 :: r, h) = some (.inl (nx, (al, .int (xs m) :: r, h))) := by
  subst he
  unfold mjsldK
  dsimp only
  rw [show Nat.beq 2000000 2000000 = true from Nat.beq_refl _, Bool.true_and, mjin_n hm (by omega), nI_clamp (by omega)]
  rfl
theorem mjGoL.br {PL : Nat → MOp} {c : Prop} [Decidable c] {d a b : Nat} {F : MF} {r : MO × MH → Prop} (h1 : c → mjGoL PL d a F r) (h2 : ¬ c → mjGoL PL d b F r) : mjGoL PL d (bif decide c then a else b) F r := by
  by_cases h : c
  · rw [decide_eq_true h]
    exact h1 h
  · rw [decide_eq_false h]
    exact h2 h
/-- what the operations of the law's own must do -/
def lTos (e3 : MOp) : Prop := ∀ (d : Nat) (I : Nat → Nat → Int32) (X : MX) (q : Int32) (al : List (Option Value)), RI I X → X.2.2.2.1 ≤ 800000 → ∃ (v : Int32) (I2 : Nat → Nat → Int32) (X2 : MX), (∀ call, e3 call (al, [.int q, .ref 0], mjH I X) = some (.inl (1509, (al, [.int v], mjH I2 X2)))) ∧ ∃ I3 X3, mjEv (d + 12) nyX12_toss [.ref 43, .int q] (mjH I2 X2) (.inl (some (.int v))) (mjH I3 X3) ∧ RI I3 X3 ∧ grw X X3
def lElm (e1 e2 : MOp) : Prop := ∀ (d : Nat) (I : Nat → Nat → Int32) (X : MX) (p q : Int32) (al : List (Option Value)) (i : Option Value), RI I X → X.2.2.2.1 ≤ 800000 → ∃ (k : Int32) (b : Int64) (I2 : Nat → Nat → Int32) (X2 : MX), (∀ call, e1 call (al, [.ref 74, .int q, .int p, .ref 0], mjH I X) = some (.inl (1351, (al, [.int k], mjH I2 X2)))) ∧
  ∃ I3 X3, mjEv (d + 12) nyX12_element [.ref 43, .int p, .int q] (mjH I2 X2) (.inl (some (.long b))) (mjH I3 X3) ∧ RI I3 X3 ∧ grw X X3 ∧
  ∀ call, e2 call ([some (.ref 2000000), some (.ref 0), some (.ref 43), some (.ref 74), i, some (.int k), none, none], [.long b], mjH I3 X3) = some (.inl (1524, ([some (.ref 2000000), some (.ref 0), some (.ref 43), some (.ref 74), i, some (.int k), none, none], [], mjH I3 X3)))
def lBd (X : MX) (t : Nat) : Prop := X.2.2.2.1 ≤ 8 * t ∧ X.2.2.2.2.1 ≤ 75 + 8 * t ∧ X.2.2.2.2.2 ≤ 2137 + 64 * t
theorem lBd.s {X Y : MX} {t : Nat} (h : lBd X t) (g : grw X Y) : lBd Y (t + 1) := by
  obtain ⟨h1, h2, h3⟩ := h
  obtain ⟨g1, g2, g3, g4⟩ := g
  exact ⟨by omega, by omega, by omega⟩
theorem law_0 {L : Nat} {xs : Nat → Int32} {e1 e2 e3 : MOp} (hL : L ≤ 3072) (hm : ∀ pc, mjMn (pL L xs e1 e2 e3 pc)) (hT : lTos e3) (hE : lElm e1 e2) (d : Nat) {i : Nat} {I : Nat → Nat → Int32} {X : MX} {o5 : Option Value} {r : MO × MH → Prop} (hi : i + 6 ≤ L) (hR : RI I X) (hN : X.2.2.2.1 ≤ 800000) (g : ∀ I3 X3 o5, RI I3 X3 → grw X X3 → mjGoL (pL L xs e1 e2 e3) (d + 13) 1524 ([some (.ref 2000000), some (.ref 0), some (.ref 43), some (.ref 74), some (.int (nI i)), o5, none, none], [], mjH I3 X3) r) : mjGoL (pL L xs e1 e2 e3) (d + 13) 208 ([some (.ref 2000000), some (.ref 0), some (.ref 43), some (.ref 74), some (.int (nI i)), o5, none, none], [], mjH I X) r := by
  refine mjGoL.run 5 (pc' := 214) (F' := ([some (.ref 2000000), some (.ref 0), some (.ref 43), some (.ref 74), some (.int (nI i)), o5, none, none], [.int ((nI i) + 1), .ref 2000000, .ref 0], mjH I X)) (fun _ => rfl) ?_
  refine mjGoL.op (pc' := 215) (F' := ([some (.ref 2000000), some (.ref 0), some (.ref 43), some (.ref 74), some (.int (nI i)), o5, none, none], [.int (xs (i + 1)), .ref 0], mjH I X)) (o := mjsldK L xs 215) rfl (fun _ => sldK_op (m := i + 1) (nI_add i 1) (by omega) hL) ?_
  obtain ⟨v, I2, X2, ev1, I3, X3, ev2, hR3, hg3⟩ := k_town d (xs (i + 1)) I X hR hN
  refine mjGoL.call hm (n := 2) (j := 87) (nx := 218) (o := some (.int v)) (h' := mjH I2 X2) (fun _ => rfl) (ev1) ?_
  show mjGoL _ _ 218 ([some (.ref 2000000), some (.ref 0), some (.ref 43), some (.ref 74), some (.int (nI i)), o5, none, none], [.int v], mjH I2 X2) _
  refine mjGoL.run 5 (pc' := 224) (F' := ([some (.ref 2000000), some (.ref 0), some (.ref 43), some (.ref 74), some (.int (nI i)), o5, none, none], [.int ((nI i) + 1), .ref 2000000, .ref 43, .int v], mjH I2 X2)) (fun _ => rfl) ?_
  refine mjGoL.op (pc' := 225) (F' := ([some (.ref 2000000), some (.ref 0), some (.ref 43), some (.ref 74), some (.int (nI i)), o5, none, none], [.int (xs (i + 1)), .ref 43, .int v], mjH I2 X2)) (o := mjsldK L xs 225) rfl (fun _ => sldK_op (m := i + 1) (nI_add i 1) (by omega) hL) ?_
  refine mjGoL.call hm (n := 2) (j := 187) (nx := 228) (o := some (.int v)) (h' := mjH I3 X3) (fun _ => rfl) (ev2) ?_
  show mjGoL _ _ 228 ([some (.ref 2000000), some (.ref 0), some (.ref 43), some (.ref 74), some (.int (nI i)), o5, none, none], [.int v, .int v], mjH I3 X3) _
  refine mjGoL.run 1 (pc' := (bif decide (v = v) then 1524 else 231)) (F' := ([some (.ref 2000000), some (.ref 0), some (.ref 43), some (.ref 74), some (.int (nI i)), o5, none, none], [], mjH I3 X3)) (fun _ => rfl) ?_
  refine mjGoL.brT (rfl) ?_
  show mjGoL _ _ 1524 _ _
  exact g _ _ _ hR3 hg3
theorem law_1 {L : Nat} {xs : Nat → Int32} {e1 e2 e3 : MOp} (hL : L ≤ 3072) (hm : ∀ pc, mjMn (pL L xs e1 e2 e3 pc)) (hT : lTos e3) (hE : lElm e1 e2) (d : Nat) {i : Nat} {I : Nat → Nat → Int32} {X : MX} {o5 : Option Value} {r : MO × MH → Prop} (hi : i + 6 ≤ L) (hR : RI I X) (hN : X.2.2.2.1 ≤ 800000) (g : ∀ I3 X3 o5, RI I3 X3 → grw X X3 → mjGoL (pL L xs e1 e2 e3) (d + 13) 1524 ([some (.ref 2000000), some (.ref 0), some (.ref 43), some (.ref 74), some (.int (nI i)), o5, none, none], [], mjH I3 X3) r) : mjGoL (pL L xs e1 e2 e3) (d + 13) 233 ([some (.ref 2000000), some (.ref 0), some (.ref 43), some (.ref 74), some (.int (nI i)), o5, none, none], [], mjH I X) r := by
  refine mjGoL.run 5 (pc' := 239) (F' := ([some (.ref 2000000), some (.ref 0), some (.ref 43), some (.ref 74), some (.int (nI i)), o5, none, none], [.int ((nI i) + 1), .ref 2000000, .ref 0], mjH I X)) (fun _ => rfl) ?_
  refine mjGoL.op (pc' := 240) (F' := ([some (.ref 2000000), some (.ref 0), some (.ref 43), some (.ref 74), some (.int (nI i)), o5, none, none], [.int (xs (i + 1)), .ref 0], mjH I X)) (o := mjsldK L xs 240) rfl (fun _ => sldK_op (m := i + 1) (nI_add i 1) (by omega) hL) ?_
  obtain ⟨v, I2, X2, ev1, I3, X3, ev2, hR3, hg3⟩ := k_price d (xs (i + 1)) I X hR hN
  refine mjGoL.call hm (n := 2) (j := 88) (nx := 243) (o := some (.int v)) (h' := mjH I2 X2) (fun _ => rfl) (ev1) ?_
  show mjGoL _ _ 243 ([some (.ref 2000000), some (.ref 0), some (.ref 43), some (.ref 74), some (.int (nI i)), o5, none, none], [.int v], mjH I2 X2) _
  refine mjGoL.run 5 (pc' := 249) (F' := ([some (.ref 2000000), some (.ref 0), some (.ref 43), some (.ref 74), some (.int (nI i)), o5, none, none], [.int ((nI i) + 1), .ref 2000000, .ref 43, .int v], mjH I2 X2)) (fun _ => rfl) ?_
  refine mjGoL.op (pc' := 250) (F' := ([some (.ref 2000000), some (.ref 0), some (.ref 43), some (.ref 74), some (.int (nI i)), o5, none, none], [.int (xs (i + 1)), .ref 43, .int v], mjH I2 X2)) (o := mjsldK L xs 250) rfl (fun _ => sldK_op (m := i + 1) (nI_add i 1) (by omega) hL) ?_
  refine mjGoL.call hm (n := 2) (j := 140) (nx := 253) (o := some (.int v)) (h' := mjH I3 X3) (fun _ => rfl) (ev2) ?_
  show mjGoL _ _ 253 ([some (.ref 2000000), some (.ref 0), some (.ref 43), some (.ref 74), some (.int (nI i)), o5, none, none], [.int v, .int v], mjH I3 X3) _
  refine mjGoL.run 1 (pc' := (bif decide (v = v) then 1524 else 256)) (F' := ([some (.ref 2000000), some (.ref 0), some (.ref 43), some (.ref 74), some (.int (nI i)), o5, none, none], [], mjH I3 X3)) (fun _ => rfl) ?_
  refine mjGoL.brT (rfl) ?_
  show mjGoL _ _ 1524 _ _
  exact g _ _ _ hR3 hg3
theorem law_2 {L : Nat} {xs : Nat → Int32} {e1 e2 e3 : MOp} (hL : L ≤ 3072) (hm : ∀ pc, mjMn (pL L xs e1 e2 e3 pc)) (hT : lTos e3) (hE : lElm e1 e2) (d : Nat) {i : Nat} {I : Nat → Nat → Int32} {X : MX} {o5 : Option Value} {r : MO × MH → Prop} (hi : i + 6 ≤ L) (hR : RI I X) (hN : X.2.2.2.1 ≤ 800000) (g : ∀ I3 X3 o5, RI I3 X3 → grw X X3 → mjGoL (pL L xs e1 e2 e3) (d + 13) 1524 ([some (.ref 2000000), some (.ref 0), some (.ref 43), some (.ref 74), some (.int (nI i)), o5, none, none], [], mjH I3 X3) r) : mjGoL (pL L xs e1 e2 e3) (d + 13) 258 ([some (.ref 2000000), some (.ref 0), some (.ref 43), some (.ref 74), some (.int (nI i)), o5, none, none], [], mjH I X) r := by
  refine mjGoL.run 5 (pc' := 264) (F' := ([some (.ref 2000000), some (.ref 0), some (.ref 43), some (.ref 74), some (.int (nI i)), o5, none, none], [.int ((nI i) + 1), .ref 2000000, .ref 0], mjH I X)) (fun _ => rfl) ?_
  refine mjGoL.op (pc' := 265) (F' := ([some (.ref 2000000), some (.ref 0), some (.ref 43), some (.ref 74), some (.int (nI i)), o5, none, none], [.int (xs (i + 1)), .ref 0], mjH I X)) (o := mjsldK L xs 265) rfl (fun _ => sldK_op (m := i + 1) (nI_add i 1) (by omega) hL) ?_
  obtain ⟨v, I2, X2, ev1, I3, X3, ev2, hR3, hg3⟩ := k_law d (xs (i + 1)) I X hR hN
  refine mjGoL.call hm (n := 2) (j := 89) (nx := 268) (o := some (.int v)) (h' := mjH I2 X2) (fun _ => rfl) (ev1) ?_
  show mjGoL _ _ 268 ([some (.ref 2000000), some (.ref 0), some (.ref 43), some (.ref 74), some (.int (nI i)), o5, none, none], [.int v], mjH I2 X2) _
  refine mjGoL.run 5 (pc' := 274) (F' := ([some (.ref 2000000), some (.ref 0), some (.ref 43), some (.ref 74), some (.int (nI i)), o5, none, none], [.int ((nI i) + 1), .ref 2000000, .ref 43, .int v], mjH I2 X2)) (fun _ => rfl) ?_
  refine mjGoL.op (pc' := 275) (F' := ([some (.ref 2000000), some (.ref 0), some (.ref 43), some (.ref 74), some (.int (nI i)), o5, none, none], [.int (xs (i + 1)), .ref 43, .int v], mjH I2 X2)) (o := mjsldK L xs 275) rfl (fun _ => sldK_op (m := i + 1) (nI_add i 1) (by omega) hL) ?_
  refine mjGoL.call hm (n := 2) (j := 141) (nx := 278) (o := some (.int v)) (h' := mjH I3 X3) (fun _ => rfl) (ev2) ?_
  show mjGoL _ _ 278 ([some (.ref 2000000), some (.ref 0), some (.ref 43), some (.ref 74), some (.int (nI i)), o5, none, none], [.int v, .int v], mjH I3 X3) _
  refine mjGoL.run 1 (pc' := (bif decide (v = v) then 1524 else 281)) (F' := ([some (.ref 2000000), some (.ref 0), some (.ref 43), some (.ref 74), some (.int (nI i)), o5, none, none], [], mjH I3 X3)) (fun _ => rfl) ?_
  refine mjGoL.brT (rfl) ?_
  show mjGoL _ _ 1524 _ _
  exact g _ _ _ hR3 hg3
theorem law_3 {L : Nat} {xs : Nat → Int32} {e1 e2 e3 : MOp} (hL : L ≤ 3072) (hm : ∀ pc, mjMn (pL L xs e1 e2 e3 pc)) (hT : lTos e3) (hE : lElm e1 e2) (d : Nat) {i : Nat} {I : Nat → Nat → Int32} {X : MX} {o5 : Option Value} {r : MO × MH → Prop} (hi : i + 6 ≤ L) (hR : RI I X) (hN : X.2.2.2.1 ≤ 800000) (g : ∀ I3 X3 o5, RI I3 X3 → grw X X3 → mjGoL (pL L xs e1 e2 e3) (d + 13) 1524 ([some (.ref 2000000), some (.ref 0), some (.ref 43), some (.ref 74), some (.int (nI i)), o5, none, none], [], mjH I3 X3) r) : mjGoL (pL L xs e1 e2 e3) (d + 13) 283 ([some (.ref 2000000), some (.ref 0), some (.ref 43), some (.ref 74), some (.int (nI i)), o5, none, none], [], mjH I X) r := by
  refine mjGoL.run 5 (pc' := 289) (F' := ([some (.ref 2000000), some (.ref 0), some (.ref 43), some (.ref 74), some (.int (nI i)), o5, none, none], [.int ((nI i) + 1), .ref 2000000, .ref 0], mjH I X)) (fun _ => rfl) ?_
  refine mjGoL.op (pc' := 290) (F' := ([some (.ref 2000000), some (.ref 0), some (.ref 43), some (.ref 74), some (.int (nI i)), o5, none, none], [.int (xs (i + 1)), .ref 0], mjH I X)) (o := mjsldK L xs 290) rfl (fun _ => sldK_op (m := i + 1) (nI_add i 1) (by omega) hL) ?_
  refine mjGoL.run 4 (pc' := 295) (F' := ([some (.ref 2000000), some (.ref 0), some (.ref 43), some (.ref 74), some (.int (nI i)), o5, none, none], [.int ((nI i) + 2), .ref 2000000, .int (xs (i + 1)), .ref 0], mjH I X)) (fun _ => rfl) ?_
  refine mjGoL.op (pc' := 296) (F' := ([some (.ref 2000000), some (.ref 0), some (.ref 43), some (.ref 74), some (.int (nI i)), o5, none, none], [.int (xs (i + 2)), .int (xs (i + 1)), .ref 0], mjH I X)) (o := mjsldK L xs 296) rfl (fun _ => sldK_op (m := i + 2) (nI_add i 2) (by omega) hL) ?_
  obtain ⟨v, I2, X2, ev1, I3, X3, ev2, hR3, hg3⟩ := k_work d (xs (i + 1)) (xs (i + 2)) I X hR hN
  refine mjGoL.call hm (n := 3) (j := 90) (nx := 299) (o := some (.int v)) (h' := mjH I2 X2) (fun _ => rfl) (ev1) ?_
  show mjGoL _ _ 299 ([some (.ref 2000000), some (.ref 0), some (.ref 43), some (.ref 74), some (.int (nI i)), o5, none, none], [.int v], mjH I2 X2) _
  refine mjGoL.run 5 (pc' := 305) (F' := ([some (.ref 2000000), some (.ref 0), some (.ref 43), some (.ref 74), some (.int (nI i)), o5, none, none], [.int ((nI i) + 1), .ref 2000000, .ref 43, .int v], mjH I2 X2)) (fun _ => rfl) ?_
  refine mjGoL.op (pc' := 306) (F' := ([some (.ref 2000000), some (.ref 0), some (.ref 43), some (.ref 74), some (.int (nI i)), o5, none, none], [.int (xs (i + 1)), .ref 43, .int v], mjH I2 X2)) (o := mjsldK L xs 306) rfl (fun _ => sldK_op (m := i + 1) (nI_add i 1) (by omega) hL) ?_
  refine mjGoL.run 4 (pc' := 311) (F' := ([some (.ref 2000000), some (.ref 0), some (.ref 43), some (.ref 74), some (.int (nI i)), o5, none, none], [.int ((nI i) + 2), .ref 2000000, .int (xs (i + 1)), .ref 43, .int v], mjH I2 X2)) (fun _ => rfl) ?_
  refine mjGoL.op (pc' := 312) (F' := ([some (.ref 2000000), some (.ref 0), some (.ref 43), some (.ref 74), some (.int (nI i)), o5, none, none], [.int (xs (i + 2)), .int (xs (i + 1)), .ref 43, .int v], mjH I2 X2)) (o := mjsldK L xs 312) rfl (fun _ => sldK_op (m := i + 2) (nI_add i 2) (by omega) hL) ?_
  refine mjGoL.call hm (n := 3) (j := 142) (nx := 315) (o := some (.int v)) (h' := mjH I3 X3) (fun _ => rfl) (ev2) ?_
  show mjGoL _ _ 315 ([some (.ref 2000000), some (.ref 0), some (.ref 43), some (.ref 74), some (.int (nI i)), o5, none, none], [.int v, .int v], mjH I3 X3) _
  refine mjGoL.run 1 (pc' := (bif decide (v = v) then 1524 else 318)) (F' := ([some (.ref 2000000), some (.ref 0), some (.ref 43), some (.ref 74), some (.int (nI i)), o5, none, none], [], mjH I3 X3)) (fun _ => rfl) ?_
  refine mjGoL.brT (rfl) ?_
  show mjGoL _ _ 1524 _ _
  exact g _ _ _ hR3 hg3
theorem law_4 {L : Nat} {xs : Nat → Int32} {e1 e2 e3 : MOp} (hL : L ≤ 3072) (hm : ∀ pc, mjMn (pL L xs e1 e2 e3 pc)) (hT : lTos e3) (hE : lElm e1 e2) (d : Nat) {i : Nat} {I : Nat → Nat → Int32} {X : MX} {o5 : Option Value} {r : MO × MH → Prop} (hi : i + 6 ≤ L) (hR : RI I X) (hN : X.2.2.2.1 ≤ 800000) (g : ∀ I3 X3 o5, RI I3 X3 → grw X X3 → mjGoL (pL L xs e1 e2 e3) (d + 13) 1524 ([some (.ref 2000000), some (.ref 0), some (.ref 43), some (.ref 74), some (.int (nI i)), o5, none, none], [], mjH I3 X3) r) : mjGoL (pL L xs e1 e2 e3) (d + 13) 320 ([some (.ref 2000000), some (.ref 0), some (.ref 43), some (.ref 74), some (.int (nI i)), o5, none, none], [], mjH I X) r := by
  refine mjGoL.run 5 (pc' := 326) (F' := ([some (.ref 2000000), some (.ref 0), some (.ref 43), some (.ref 74), some (.int (nI i)), o5, none, none], [.int ((nI i) + 1), .ref 2000000, .ref 0], mjH I X)) (fun _ => rfl) ?_
  refine mjGoL.op (pc' := 327) (F' := ([some (.ref 2000000), some (.ref 0), some (.ref 43), some (.ref 74), some (.int (nI i)), o5, none, none], [.int (xs (i + 1)), .ref 0], mjH I X)) (o := mjsldK L xs 327) rfl (fun _ => sldK_op (m := i + 1) (nI_add i 1) (by omega) hL) ?_
  refine mjGoL.run 4 (pc' := 332) (F' := ([some (.ref 2000000), some (.ref 0), some (.ref 43), some (.ref 74), some (.int (nI i)), o5, none, none], [.int ((nI i) + 2), .ref 2000000, .int (xs (i + 1)), .ref 0], mjH I X)) (fun _ => rfl) ?_
  refine mjGoL.op (pc' := 333) (F' := ([some (.ref 2000000), some (.ref 0), some (.ref 43), some (.ref 74), some (.int (nI i)), o5, none, none], [.int (xs (i + 2)), .int (xs (i + 1)), .ref 0], mjH I X)) (o := mjsldK L xs 333) rfl (fun _ => sldK_op (m := i + 2) (nI_add i 2) (by omega) hL) ?_
  obtain ⟨v, I2, X2, ev1, I3, X3, ev2, hR3, hg3⟩ := k_looker d (xs (i + 1)) (xs (i + 2)) I X hR hN
  refine mjGoL.call hm (n := 3) (j := 92) (nx := 336) (o := some (.int v)) (h' := mjH I2 X2) (fun _ => rfl) (ev1) ?_
  show mjGoL _ _ 336 ([some (.ref 2000000), some (.ref 0), some (.ref 43), some (.ref 74), some (.int (nI i)), o5, none, none], [.int v], mjH I2 X2) _
  refine mjGoL.run 5 (pc' := 342) (F' := ([some (.ref 2000000), some (.ref 0), some (.ref 43), some (.ref 74), some (.int (nI i)), o5, none, none], [.int ((nI i) + 1), .ref 2000000, .ref 43, .int v], mjH I2 X2)) (fun _ => rfl) ?_
  refine mjGoL.op (pc' := 343) (F' := ([some (.ref 2000000), some (.ref 0), some (.ref 43), some (.ref 74), some (.int (nI i)), o5, none, none], [.int (xs (i + 1)), .ref 43, .int v], mjH I2 X2)) (o := mjsldK L xs 343) rfl (fun _ => sldK_op (m := i + 1) (nI_add i 1) (by omega) hL) ?_
  refine mjGoL.run 4 (pc' := 348) (F' := ([some (.ref 2000000), some (.ref 0), some (.ref 43), some (.ref 74), some (.int (nI i)), o5, none, none], [.int ((nI i) + 2), .ref 2000000, .int (xs (i + 1)), .ref 43, .int v], mjH I2 X2)) (fun _ => rfl) ?_
  refine mjGoL.op (pc' := 349) (F' := ([some (.ref 2000000), some (.ref 0), some (.ref 43), some (.ref 74), some (.int (nI i)), o5, none, none], [.int (xs (i + 2)), .int (xs (i + 1)), .ref 43, .int v], mjH I2 X2)) (o := mjsldK L xs 349) rfl (fun _ => sldK_op (m := i + 2) (nI_add i 2) (by omega) hL) ?_
  refine mjGoL.call hm (n := 3) (j := 144) (nx := 352) (o := some (.int v)) (h' := mjH I3 X3) (fun _ => rfl) (ev2) ?_
  show mjGoL _ _ 352 ([some (.ref 2000000), some (.ref 0), some (.ref 43), some (.ref 74), some (.int (nI i)), o5, none, none], [.int v, .int v], mjH I3 X3) _
  refine mjGoL.run 1 (pc' := (bif decide (v = v) then 1524 else 355)) (F' := ([some (.ref 2000000), some (.ref 0), some (.ref 43), some (.ref 74), some (.int (nI i)), o5, none, none], [], mjH I3 X3)) (fun _ => rfl) ?_
  refine mjGoL.brT (rfl) ?_
  show mjGoL _ _ 1524 _ _
  exact g _ _ _ hR3 hg3
theorem law_5 {L : Nat} {xs : Nat → Int32} {e1 e2 e3 : MOp} (hL : L ≤ 3072) (hm : ∀ pc, mjMn (pL L xs e1 e2 e3 pc)) (hT : lTos e3) (hE : lElm e1 e2) (d : Nat) {i : Nat} {I : Nat → Nat → Int32} {X : MX} {o5 : Option Value} {r : MO × MH → Prop} (hi : i + 6 ≤ L) (hR : RI I X) (hN : X.2.2.2.1 ≤ 800000) (g : ∀ I3 X3 o5, RI I3 X3 → grw X X3 → mjGoL (pL L xs e1 e2 e3) (d + 13) 1524 ([some (.ref 2000000), some (.ref 0), some (.ref 43), some (.ref 74), some (.int (nI i)), o5, none, none], [], mjH I3 X3) r) : mjGoL (pL L xs e1 e2 e3) (d + 13) 357 ([some (.ref 2000000), some (.ref 0), some (.ref 43), some (.ref 74), some (.int (nI i)), o5, none, none], [], mjH I X) r := by
  refine mjGoL.run 5 (pc' := 363) (F' := ([some (.ref 2000000), some (.ref 0), some (.ref 43), some (.ref 74), some (.int (nI i)), o5, none, none], [.int ((nI i) + 1), .ref 2000000, .ref 0], mjH I X)) (fun _ => rfl) ?_
  refine mjGoL.op (pc' := 364) (F' := ([some (.ref 2000000), some (.ref 0), some (.ref 43), some (.ref 74), some (.int (nI i)), o5, none, none], [.int (xs (i + 1)), .ref 0], mjH I X)) (o := mjsldK L xs 364) rfl (fun _ => sldK_op (m := i + 1) (nI_add i 1) (by omega) hL) ?_
  obtain ⟨v, I2, X2, ev1, I3, X3, ev2, hR3, hg3⟩ := k_drift d (xs (i + 1)) I X hR hN
  refine mjGoL.call hm (n := 2) (j := 93) (nx := 367) (o := some (.int v)) (h' := mjH I2 X2) (fun _ => rfl) (ev1) ?_
  show mjGoL _ _ 367 ([some (.ref 2000000), some (.ref 0), some (.ref 43), some (.ref 74), some (.int (nI i)), o5, none, none], [.int v], mjH I2 X2) _
  refine mjGoL.run 5 (pc' := 373) (F' := ([some (.ref 2000000), some (.ref 0), some (.ref 43), some (.ref 74), some (.int (nI i)), o5, none, none], [.int ((nI i) + 1), .ref 2000000, .ref 43, .int v], mjH I2 X2)) (fun _ => rfl) ?_
  refine mjGoL.op (pc' := 374) (F' := ([some (.ref 2000000), some (.ref 0), some (.ref 43), some (.ref 74), some (.int (nI i)), o5, none, none], [.int (xs (i + 1)), .ref 43, .int v], mjH I2 X2)) (o := mjsldK L xs 374) rfl (fun _ => sldK_op (m := i + 1) (nI_add i 1) (by omega) hL) ?_
  refine mjGoL.call hm (n := 2) (j := 145) (nx := 377) (o := some (.int v)) (h' := mjH I3 X3) (fun _ => rfl) (ev2) ?_
  show mjGoL _ _ 377 ([some (.ref 2000000), some (.ref 0), some (.ref 43), some (.ref 74), some (.int (nI i)), o5, none, none], [.int v, .int v], mjH I3 X3) _
  refine mjGoL.run 1 (pc' := (bif decide (v = v) then 1524 else 380)) (F' := ([some (.ref 2000000), some (.ref 0), some (.ref 43), some (.ref 74), some (.int (nI i)), o5, none, none], [], mjH I3 X3)) (fun _ => rfl) ?_
  refine mjGoL.brT (rfl) ?_
  show mjGoL _ _ 1524 _ _
  exact g _ _ _ hR3 hg3
theorem law_6 {L : Nat} {xs : Nat → Int32} {e1 e2 e3 : MOp} (hL : L ≤ 3072) (hm : ∀ pc, mjMn (pL L xs e1 e2 e3 pc)) (hT : lTos e3) (hE : lElm e1 e2) (d : Nat) {i : Nat} {I : Nat → Nat → Int32} {X : MX} {o5 : Option Value} {r : MO × MH → Prop} (hi : i + 6 ≤ L) (hR : RI I X) (hN : X.2.2.2.1 ≤ 800000) (g : ∀ I3 X3 o5, RI I3 X3 → grw X X3 → mjGoL (pL L xs e1 e2 e3) (d + 13) 1524 ([some (.ref 2000000), some (.ref 0), some (.ref 43), some (.ref 74), some (.int (nI i)), o5, none, none], [], mjH I3 X3) r) : mjGoL (pL L xs e1 e2 e3) (d + 13) 382 ([some (.ref 2000000), some (.ref 0), some (.ref 43), some (.ref 74), some (.int (nI i)), o5, none, none], [], mjH I X) r := by
  refine mjGoL.run 5 (pc' := 388) (F' := ([some (.ref 2000000), some (.ref 0), some (.ref 43), some (.ref 74), some (.int (nI i)), o5, none, none], [.int ((nI i) + 1), .ref 2000000, .ref 0], mjH I X)) (fun _ => rfl) ?_
  refine mjGoL.op (pc' := 389) (F' := ([some (.ref 2000000), some (.ref 0), some (.ref 43), some (.ref 74), some (.int (nI i)), o5, none, none], [.int (xs (i + 1)), .ref 0], mjH I X)) (o := mjsldK L xs 389) rfl (fun _ => sldK_op (m := i + 1) (nI_add i 1) (by omega) hL) ?_
  refine mjGoL.run 4 (pc' := 394) (F' := ([some (.ref 2000000), some (.ref 0), some (.ref 43), some (.ref 74), some (.int (nI i)), o5, none, none], [.int ((nI i) + 2), .ref 2000000, .int (xs (i + 1)), .ref 0], mjH I X)) (fun _ => rfl) ?_
  refine mjGoL.op (pc' := 395) (F' := ([some (.ref 2000000), some (.ref 0), some (.ref 43), some (.ref 74), some (.int (nI i)), o5, none, none], [.int (xs (i + 2)), .int (xs (i + 1)), .ref 0], mjH I X)) (o := mjsldK L xs 395) rfl (fun _ => sldK_op (m := i + 2) (nI_add i 2) (by omega) hL) ?_
  refine mjGoL.run 4 (pc' := 400) (F' := ([some (.ref 2000000), some (.ref 0), some (.ref 43), some (.ref 74), some (.int (nI i)), o5, none, none], [.int ((nI i) + 3), .ref 2000000, .int (xs (i + 2)), .int (xs (i + 1)), .ref 0], mjH I X)) (fun _ => rfl) ?_
  refine mjGoL.op (pc' := 401) (F' := ([some (.ref 2000000), some (.ref 0), some (.ref 43), some (.ref 74), some (.int (nI i)), o5, none, none], [.int (xs (i + 3)), .int (xs (i + 2)), .int (xs (i + 1)), .ref 0], mjH I X)) (o := mjsldK L xs 401) rfl (fun _ => sldK_op (m := i + 3) (nI_add i 3) (by omega) hL) ?_
  obtain ⟨v, I2, X2, ev1, I3, X3, ev2, hR3, hg3⟩ := k_thinks d (xs (i + 1)) (xs (i + 2)) (xs (i + 3)) I X hR hN
  refine mjGoL.call hm (n := 4) (j := 94) (nx := 404) (o := some (.int v)) (h' := mjH I2 X2) (fun _ => rfl) (ev1) ?_
  show mjGoL _ _ 404 ([some (.ref 2000000), some (.ref 0), some (.ref 43), some (.ref 74), some (.int (nI i)), o5, none, none], [.int v], mjH I2 X2) _
  refine mjGoL.run 5 (pc' := 410) (F' := ([some (.ref 2000000), some (.ref 0), some (.ref 43), some (.ref 74), some (.int (nI i)), o5, none, none], [.int ((nI i) + 1), .ref 2000000, .ref 43, .int v], mjH I2 X2)) (fun _ => rfl) ?_
  refine mjGoL.op (pc' := 411) (F' := ([some (.ref 2000000), some (.ref 0), some (.ref 43), some (.ref 74), some (.int (nI i)), o5, none, none], [.int (xs (i + 1)), .ref 43, .int v], mjH I2 X2)) (o := mjsldK L xs 411) rfl (fun _ => sldK_op (m := i + 1) (nI_add i 1) (by omega) hL) ?_
  refine mjGoL.run 4 (pc' := 416) (F' := ([some (.ref 2000000), some (.ref 0), some (.ref 43), some (.ref 74), some (.int (nI i)), o5, none, none], [.int ((nI i) + 2), .ref 2000000, .int (xs (i + 1)), .ref 43, .int v], mjH I2 X2)) (fun _ => rfl) ?_
  refine mjGoL.op (pc' := 417) (F' := ([some (.ref 2000000), some (.ref 0), some (.ref 43), some (.ref 74), some (.int (nI i)), o5, none, none], [.int (xs (i + 2)), .int (xs (i + 1)), .ref 43, .int v], mjH I2 X2)) (o := mjsldK L xs 417) rfl (fun _ => sldK_op (m := i + 2) (nI_add i 2) (by omega) hL) ?_
  refine mjGoL.run 4 (pc' := 422) (F' := ([some (.ref 2000000), some (.ref 0), some (.ref 43), some (.ref 74), some (.int (nI i)), o5, none, none], [.int ((nI i) + 3), .ref 2000000, .int (xs (i + 2)), .int (xs (i + 1)), .ref 43, .int v], mjH I2 X2)) (fun _ => rfl) ?_
  refine mjGoL.op (pc' := 423) (F' := ([some (.ref 2000000), some (.ref 0), some (.ref 43), some (.ref 74), some (.int (nI i)), o5, none, none], [.int (xs (i + 3)), .int (xs (i + 2)), .int (xs (i + 1)), .ref 43, .int v], mjH I2 X2)) (o := mjsldK L xs 423) rfl (fun _ => sldK_op (m := i + 3) (nI_add i 3) (by omega) hL) ?_
  refine mjGoL.call hm (n := 4) (j := 147) (nx := 426) (o := some (.int v)) (h' := mjH I3 X3) (fun _ => rfl) (ev2) ?_
  show mjGoL _ _ 426 ([some (.ref 2000000), some (.ref 0), some (.ref 43), some (.ref 74), some (.int (nI i)), o5, none, none], [.int v, .int v], mjH I3 X3) _
  refine mjGoL.run 1 (pc' := (bif decide (v = v) then 1524 else 429)) (F' := ([some (.ref 2000000), some (.ref 0), some (.ref 43), some (.ref 74), some (.int (nI i)), o5, none, none], [], mjH I3 X3)) (fun _ => rfl) ?_
  refine mjGoL.brT (rfl) ?_
  show mjGoL _ _ 1524 _ _
  exact g _ _ _ hR3 hg3
theorem law_7 {L : Nat} {xs : Nat → Int32} {e1 e2 e3 : MOp} (hL : L ≤ 3072) (hm : ∀ pc, mjMn (pL L xs e1 e2 e3 pc)) (hT : lTos e3) (hE : lElm e1 e2) (d : Nat) {i : Nat} {I : Nat → Nat → Int32} {X : MX} {o5 : Option Value} {r : MO × MH → Prop} (hi : i + 6 ≤ L) (hR : RI I X) (hN : X.2.2.2.1 ≤ 800000) (g : ∀ I3 X3 o5, RI I3 X3 → grw X X3 → mjGoL (pL L xs e1 e2 e3) (d + 13) 1524 ([some (.ref 2000000), some (.ref 0), some (.ref 43), some (.ref 74), some (.int (nI i)), o5, none, none], [], mjH I3 X3) r) : mjGoL (pL L xs e1 e2 e3) (d + 13) 431 ([some (.ref 2000000), some (.ref 0), some (.ref 43), some (.ref 74), some (.int (nI i)), o5, none, none], [], mjH I X) r := by
  refine mjGoL.run 5 (pc' := 437) (F' := ([some (.ref 2000000), some (.ref 0), some (.ref 43), some (.ref 74), some (.int (nI i)), o5, none, none], [.int ((nI i) + 1), .ref 2000000, .ref 0], mjH I X)) (fun _ => rfl) ?_
  refine mjGoL.op (pc' := 438) (F' := ([some (.ref 2000000), some (.ref 0), some (.ref 43), some (.ref 74), some (.int (nI i)), o5, none, none], [.int (xs (i + 1)), .ref 0], mjH I X)) (o := mjsldK L xs 438) rfl (fun _ => sldK_op (m := i + 1) (nI_add i 1) (by omega) hL) ?_
  refine mjGoL.run 4 (pc' := 443) (F' := ([some (.ref 2000000), some (.ref 0), some (.ref 43), some (.ref 74), some (.int (nI i)), o5, none, none], [.int ((nI i) + 2), .ref 2000000, .int (xs (i + 1)), .ref 0], mjH I X)) (fun _ => rfl) ?_
  refine mjGoL.op (pc' := 444) (F' := ([some (.ref 2000000), some (.ref 0), some (.ref 43), some (.ref 74), some (.int (nI i)), o5, none, none], [.int (xs (i + 2)), .int (xs (i + 1)), .ref 0], mjH I X)) (o := mjsldK L xs 444) rfl (fun _ => sldK_op (m := i + 2) (nI_add i 2) (by omega) hL) ?_
  obtain ⟨v, I2, X2, ev1, I3, X3, ev2, hR3, hg3⟩ := k_day d (xs (i + 1)) (xs (i + 2)) I X hR hN
  refine mjGoL.call hm (n := 3) (j := 95) (nx := 447) (o := some (.int v)) (h' := mjH I2 X2) (fun _ => rfl) (ev1) ?_
  show mjGoL _ _ 447 ([some (.ref 2000000), some (.ref 0), some (.ref 43), some (.ref 74), some (.int (nI i)), o5, none, none], [.int v], mjH I2 X2) _
  refine mjGoL.run 5 (pc' := 453) (F' := ([some (.ref 2000000), some (.ref 0), some (.ref 43), some (.ref 74), some (.int (nI i)), o5, none, none], [.int ((nI i) + 1), .ref 2000000, .ref 43, .int v], mjH I2 X2)) (fun _ => rfl) ?_
  refine mjGoL.op (pc' := 454) (F' := ([some (.ref 2000000), some (.ref 0), some (.ref 43), some (.ref 74), some (.int (nI i)), o5, none, none], [.int (xs (i + 1)), .ref 43, .int v], mjH I2 X2)) (o := mjsldK L xs 454) rfl (fun _ => sldK_op (m := i + 1) (nI_add i 1) (by omega) hL) ?_
  refine mjGoL.run 4 (pc' := 459) (F' := ([some (.ref 2000000), some (.ref 0), some (.ref 43), some (.ref 74), some (.int (nI i)), o5, none, none], [.int ((nI i) + 2), .ref 2000000, .int (xs (i + 1)), .ref 43, .int v], mjH I2 X2)) (fun _ => rfl) ?_
  refine mjGoL.op (pc' := 460) (F' := ([some (.ref 2000000), some (.ref 0), some (.ref 43), some (.ref 74), some (.int (nI i)), o5, none, none], [.int (xs (i + 2)), .int (xs (i + 1)), .ref 43, .int v], mjH I2 X2)) (o := mjsldK L xs 460) rfl (fun _ => sldK_op (m := i + 2) (nI_add i 2) (by omega) hL) ?_
  refine mjGoL.call hm (n := 3) (j := 154) (nx := 463) (o := some (.int v)) (h' := mjH I3 X3) (fun _ => rfl) (ev2) ?_
  show mjGoL _ _ 463 ([some (.ref 2000000), some (.ref 0), some (.ref 43), some (.ref 74), some (.int (nI i)), o5, none, none], [.int v, .int v], mjH I3 X3) _
  refine mjGoL.run 1 (pc' := (bif decide (v = v) then 1524 else 466)) (F' := ([some (.ref 2000000), some (.ref 0), some (.ref 43), some (.ref 74), some (.int (nI i)), o5, none, none], [], mjH I3 X3)) (fun _ => rfl) ?_
  refine mjGoL.brT (rfl) ?_
  show mjGoL _ _ 1524 _ _
  exact g _ _ _ hR3 hg3
theorem law_8 {L : Nat} {xs : Nat → Int32} {e1 e2 e3 : MOp} (hL : L ≤ 3072) (hm : ∀ pc, mjMn (pL L xs e1 e2 e3 pc)) (hT : lTos e3) (hE : lElm e1 e2) (d : Nat) {i : Nat} {I : Nat → Nat → Int32} {X : MX} {o5 : Option Value} {r : MO × MH → Prop} (hi : i + 6 ≤ L) (hR : RI I X) (hN : X.2.2.2.1 ≤ 800000) (g : ∀ I3 X3 o5, RI I3 X3 → grw X X3 → mjGoL (pL L xs e1 e2 e3) (d + 13) 1524 ([some (.ref 2000000), some (.ref 0), some (.ref 43), some (.ref 74), some (.int (nI i)), o5, none, none], [], mjH I3 X3) r) : mjGoL (pL L xs e1 e2 e3) (d + 13) 468 ([some (.ref 2000000), some (.ref 0), some (.ref 43), some (.ref 74), some (.int (nI i)), o5, none, none], [], mjH I X) r := by
  refine mjGoL.run 5 (pc' := 474) (F' := ([some (.ref 2000000), some (.ref 0), some (.ref 43), some (.ref 74), some (.int (nI i)), o5, none, none], [.int ((nI i) + 1), .ref 2000000, .ref 0], mjH I X)) (fun _ => rfl) ?_
  refine mjGoL.op (pc' := 475) (F' := ([some (.ref 2000000), some (.ref 0), some (.ref 43), some (.ref 74), some (.int (nI i)), o5, none, none], [.int (xs (i + 1)), .ref 0], mjH I X)) (o := mjsldK L xs 475) rfl (fun _ => sldK_op (m := i + 1) (nI_add i 1) (by omega) hL) ?_
  refine mjGoL.run 4 (pc' := 480) (F' := ([some (.ref 2000000), some (.ref 0), some (.ref 43), some (.ref 74), some (.int (nI i)), o5, none, none], [.int ((nI i) + 2), .ref 2000000, .int (xs (i + 1)), .ref 0], mjH I X)) (fun _ => rfl) ?_
  refine mjGoL.op (pc' := 481) (F' := ([some (.ref 2000000), some (.ref 0), some (.ref 43), some (.ref 74), some (.int (nI i)), o5, none, none], [.int (xs (i + 2)), .int (xs (i + 1)), .ref 0], mjH I X)) (o := mjsldK L xs 481) rfl (fun _ => sldK_op (m := i + 2) (nI_add i 2) (by omega) hL) ?_
  obtain ⟨v, I2, X2, ev1, I3, X3, ev2, hR3, hg3⟩ := k_look d (xs (i + 1)) (xs (i + 2)) I X hR hN
  refine mjGoL.call hm (n := 3) (j := 96) (nx := 484) (o := some (.int v)) (h' := mjH I2 X2) (fun _ => rfl) (ev1) ?_
  show mjGoL _ _ 484 ([some (.ref 2000000), some (.ref 0), some (.ref 43), some (.ref 74), some (.int (nI i)), o5, none, none], [.int v], mjH I2 X2) _
  refine mjGoL.run 5 (pc' := 490) (F' := ([some (.ref 2000000), some (.ref 0), some (.ref 43), some (.ref 74), some (.int (nI i)), o5, none, none], [.int ((nI i) + 1), .ref 2000000, .ref 43, .int v], mjH I2 X2)) (fun _ => rfl) ?_
  refine mjGoL.op (pc' := 491) (F' := ([some (.ref 2000000), some (.ref 0), some (.ref 43), some (.ref 74), some (.int (nI i)), o5, none, none], [.int (xs (i + 1)), .ref 43, .int v], mjH I2 X2)) (o := mjsldK L xs 491) rfl (fun _ => sldK_op (m := i + 1) (nI_add i 1) (by omega) hL) ?_
  refine mjGoL.run 4 (pc' := 496) (F' := ([some (.ref 2000000), some (.ref 0), some (.ref 43), some (.ref 74), some (.int (nI i)), o5, none, none], [.int ((nI i) + 2), .ref 2000000, .int (xs (i + 1)), .ref 43, .int v], mjH I2 X2)) (fun _ => rfl) ?_
  refine mjGoL.op (pc' := 497) (F' := ([some (.ref 2000000), some (.ref 0), some (.ref 43), some (.ref 74), some (.int (nI i)), o5, none, none], [.int (xs (i + 2)), .int (xs (i + 1)), .ref 43, .int v], mjH I2 X2)) (o := mjsldK L xs 497) rfl (fun _ => sldK_op (m := i + 2) (nI_add i 2) (by omega) hL) ?_
  refine mjGoL.call hm (n := 3) (j := 155) (nx := 500) (o := some (.int v)) (h' := mjH I3 X3) (fun _ => rfl) (ev2) ?_
  show mjGoL _ _ 500 ([some (.ref 2000000), some (.ref 0), some (.ref 43), some (.ref 74), some (.int (nI i)), o5, none, none], [.int v, .int v], mjH I3 X3) _
  refine mjGoL.run 1 (pc' := (bif decide (v = v) then 1524 else 503)) (F' := ([some (.ref 2000000), some (.ref 0), some (.ref 43), some (.ref 74), some (.int (nI i)), o5, none, none], [], mjH I3 X3)) (fun _ => rfl) ?_
  refine mjGoL.brT (rfl) ?_
  show mjGoL _ _ 1524 _ _
  exact g _ _ _ hR3 hg3
theorem law_9 {L : Nat} {xs : Nat → Int32} {e1 e2 e3 : MOp} (hL : L ≤ 3072) (hm : ∀ pc, mjMn (pL L xs e1 e2 e3 pc)) (hT : lTos e3) (hE : lElm e1 e2) (d : Nat) {i : Nat} {I : Nat → Nat → Int32} {X : MX} {o5 : Option Value} {r : MO × MH → Prop} (hi : i + 6 ≤ L) (hR : RI I X) (hN : X.2.2.2.1 ≤ 800000) (g : ∀ I3 X3 o5, RI I3 X3 → grw X X3 → mjGoL (pL L xs e1 e2 e3) (d + 13) 1524 ([some (.ref 2000000), some (.ref 0), some (.ref 43), some (.ref 74), some (.int (nI i)), o5, none, none], [], mjH I3 X3) r) : mjGoL (pL L xs e1 e2 e3) (d + 13) 505 ([some (.ref 2000000), some (.ref 0), some (.ref 43), some (.ref 74), some (.int (nI i)), o5, none, none], [], mjH I X) r := by
  refine mjGoL.run 5 (pc' := 511) (F' := ([some (.ref 2000000), some (.ref 0), some (.ref 43), some (.ref 74), some (.int (nI i)), o5, none, none], [.int ((nI i) + 1), .ref 2000000, .ref 0], mjH I X)) (fun _ => rfl) ?_
  refine mjGoL.op (pc' := 512) (F' := ([some (.ref 2000000), some (.ref 0), some (.ref 43), some (.ref 74), some (.int (nI i)), o5, none, none], [.int (xs (i + 1)), .ref 0], mjH I X)) (o := mjsldK L xs 512) rfl (fun _ => sldK_op (m := i + 1) (nI_add i 1) (by omega) hL) ?_
  refine mjGoL.run 4 (pc' := 517) (F' := ([some (.ref 2000000), some (.ref 0), some (.ref 43), some (.ref 74), some (.int (nI i)), o5, none, none], [.int ((nI i) + 2), .ref 2000000, .int (xs (i + 1)), .ref 0], mjH I X)) (fun _ => rfl) ?_
  refine mjGoL.op (pc' := 518) (F' := ([some (.ref 2000000), some (.ref 0), some (.ref 43), some (.ref 74), some (.int (nI i)), o5, none, none], [.int (xs (i + 2)), .int (xs (i + 1)), .ref 0], mjH I X)) (o := mjsldK L xs 518) rfl (fun _ => sldK_op (m := i + 2) (nI_add i 2) (by omega) hL) ?_
  obtain ⟨v, I2, X2, ev1, I3, X3, ev2, hR3, hg3⟩ := k_comes d (xs (i + 1)) (xs (i + 2)) I X hR hN
  refine mjGoL.call hm (n := 3) (j := 97) (nx := 521) (o := some (.int v)) (h' := mjH I2 X2) (fun _ => rfl) (ev1) ?_
  show mjGoL _ _ 521 ([some (.ref 2000000), some (.ref 0), some (.ref 43), some (.ref 74), some (.int (nI i)), o5, none, none], [.int v], mjH I2 X2) _
  refine mjGoL.run 5 (pc' := 527) (F' := ([some (.ref 2000000), some (.ref 0), some (.ref 43), some (.ref 74), some (.int (nI i)), o5, none, none], [.int ((nI i) + 1), .ref 2000000, .ref 43, .int v], mjH I2 X2)) (fun _ => rfl) ?_
  refine mjGoL.op (pc' := 528) (F' := ([some (.ref 2000000), some (.ref 0), some (.ref 43), some (.ref 74), some (.int (nI i)), o5, none, none], [.int (xs (i + 1)), .ref 43, .int v], mjH I2 X2)) (o := mjsldK L xs 528) rfl (fun _ => sldK_op (m := i + 1) (nI_add i 1) (by omega) hL) ?_
  refine mjGoL.run 4 (pc' := 533) (F' := ([some (.ref 2000000), some (.ref 0), some (.ref 43), some (.ref 74), some (.int (nI i)), o5, none, none], [.int ((nI i) + 2), .ref 2000000, .int (xs (i + 1)), .ref 43, .int v], mjH I2 X2)) (fun _ => rfl) ?_
  refine mjGoL.op (pc' := 534) (F' := ([some (.ref 2000000), some (.ref 0), some (.ref 43), some (.ref 74), some (.int (nI i)), o5, none, none], [.int (xs (i + 2)), .int (xs (i + 1)), .ref 43, .int v], mjH I2 X2)) (o := mjsldK L xs 534) rfl (fun _ => sldK_op (m := i + 2) (nI_add i 2) (by omega) hL) ?_
  refine mjGoL.call hm (n := 3) (j := 156) (nx := 537) (o := some (.int v)) (h' := mjH I3 X3) (fun _ => rfl) (ev2) ?_
  show mjGoL _ _ 537 ([some (.ref 2000000), some (.ref 0), some (.ref 43), some (.ref 74), some (.int (nI i)), o5, none, none], [.int v, .int v], mjH I3 X3) _
  refine mjGoL.run 1 (pc' := (bif decide (v = v) then 1524 else 540)) (F' := ([some (.ref 2000000), some (.ref 0), some (.ref 43), some (.ref 74), some (.int (nI i)), o5, none, none], [], mjH I3 X3)) (fun _ => rfl) ?_
  refine mjGoL.brT (rfl) ?_
  show mjGoL _ _ 1524 _ _
  exact g _ _ _ hR3 hg3
theorem law_10 {L : Nat} {xs : Nat → Int32} {e1 e2 e3 : MOp} (hL : L ≤ 3072) (hm : ∀ pc, mjMn (pL L xs e1 e2 e3 pc)) (hT : lTos e3) (hE : lElm e1 e2) (d : Nat) {i : Nat} {I : Nat → Nat → Int32} {X : MX} {o5 : Option Value} {r : MO × MH → Prop} (hi : i + 6 ≤ L) (hR : RI I X) (hN : X.2.2.2.1 ≤ 800000) (g : ∀ I3 X3 o5, RI I3 X3 → grw X X3 → mjGoL (pL L xs e1 e2 e3) (d + 13) 1524 ([some (.ref 2000000), some (.ref 0), some (.ref 43), some (.ref 74), some (.int (nI i)), o5, none, none], [], mjH I3 X3) r) : mjGoL (pL L xs e1 e2 e3) (d + 13) 542 ([some (.ref 2000000), some (.ref 0), some (.ref 43), some (.ref 74), some (.int (nI i)), o5, none, none], [], mjH I X) r := by
  refine mjGoL.run 5 (pc' := 548) (F' := ([some (.ref 2000000), some (.ref 0), some (.ref 43), some (.ref 74), some (.int (nI i)), o5, none, none], [.int ((nI i) + 1), .ref 2000000, .ref 0], mjH I X)) (fun _ => rfl) ?_
  refine mjGoL.op (pc' := 549) (F' := ([some (.ref 2000000), some (.ref 0), some (.ref 43), some (.ref 74), some (.int (nI i)), o5, none, none], [.int (xs (i + 1)), .ref 0], mjH I X)) (o := mjsldK L xs 549) rfl (fun _ => sldK_op (m := i + 1) (nI_add i 1) (by omega) hL) ?_
  obtain ⟨v, I2, X2, ev1, I3, X3, ev2, hR3, hg3⟩ := k_bestFigure d (xs (i + 1)) I X hR hN
  refine mjGoL.call hm (n := 2) (j := 98) (nx := 552) (o := some (.int v)) (h' := mjH I2 X2) (fun _ => rfl) (ev1) ?_
  show mjGoL _ _ 552 ([some (.ref 2000000), some (.ref 0), some (.ref 43), some (.ref 74), some (.int (nI i)), o5, none, none], [.int v], mjH I2 X2) _
  refine mjGoL.run 5 (pc' := 558) (F' := ([some (.ref 2000000), some (.ref 0), some (.ref 43), some (.ref 74), some (.int (nI i)), o5, none, none], [.int ((nI i) + 1), .ref 2000000, .ref 43, .int v], mjH I2 X2)) (fun _ => rfl) ?_
  refine mjGoL.op (pc' := 559) (F' := ([some (.ref 2000000), some (.ref 0), some (.ref 43), some (.ref 74), some (.int (nI i)), o5, none, none], [.int (xs (i + 1)), .ref 43, .int v], mjH I2 X2)) (o := mjsldK L xs 559) rfl (fun _ => sldK_op (m := i + 1) (nI_add i 1) (by omega) hL) ?_
  refine mjGoL.call hm (n := 2) (j := 157) (nx := 562) (o := some (.int v)) (h' := mjH I3 X3) (fun _ => rfl) (ev2) ?_
  show mjGoL _ _ 562 ([some (.ref 2000000), some (.ref 0), some (.ref 43), some (.ref 74), some (.int (nI i)), o5, none, none], [.int v, .int v], mjH I3 X3) _
  refine mjGoL.run 1 (pc' := (bif decide (v = v) then 1524 else 565)) (F' := ([some (.ref 2000000), some (.ref 0), some (.ref 43), some (.ref 74), some (.int (nI i)), o5, none, none], [], mjH I3 X3)) (fun _ => rfl) ?_
  refine mjGoL.brT (rfl) ?_
  show mjGoL _ _ 1524 _ _
  exact g _ _ _ hR3 hg3
theorem law_11 {L : Nat} {xs : Nat → Int32} {e1 e2 e3 : MOp} (hL : L ≤ 3072) (hm : ∀ pc, mjMn (pL L xs e1 e2 e3 pc)) (hT : lTos e3) (hE : lElm e1 e2) (d : Nat) {i : Nat} {I : Nat → Nat → Int32} {X : MX} {o5 : Option Value} {r : MO × MH → Prop} (hi : i + 6 ≤ L) (hR : RI I X) (hN : X.2.2.2.1 ≤ 800000) (g : ∀ I3 X3 o5, RI I3 X3 → grw X X3 → mjGoL (pL L xs e1 e2 e3) (d + 13) 1524 ([some (.ref 2000000), some (.ref 0), some (.ref 43), some (.ref 74), some (.int (nI i)), o5, none, none], [], mjH I3 X3) r) : mjGoL (pL L xs e1 e2 e3) (d + 13) 567 ([some (.ref 2000000), some (.ref 0), some (.ref 43), some (.ref 74), some (.int (nI i)), o5, none, none], [], mjH I X) r := by
  refine mjGoL.run 5 (pc' := 573) (F' := ([some (.ref 2000000), some (.ref 0), some (.ref 43), some (.ref 74), some (.int (nI i)), o5, none, none], [.int ((nI i) + 1), .ref 2000000, .ref 0], mjH I X)) (fun _ => rfl) ?_
  refine mjGoL.op (pc' := 574) (F' := ([some (.ref 2000000), some (.ref 0), some (.ref 43), some (.ref 74), some (.int (nI i)), o5, none, none], [.int (xs (i + 1)), .ref 0], mjH I X)) (o := mjsldK L xs 574) rfl (fun _ => sldK_op (m := i + 1) (nI_add i 1) (by omega) hL) ?_
  obtain ⟨v, I2, X2, ev1, I3, X3, ev2, hR3, hg3⟩ := k_always d (xs (i + 1)) I X hR hN
  refine mjGoL.call hm (n := 2) (j := 99) (nx := 577) (o := some (.int v)) (h' := mjH I2 X2) (fun _ => rfl) (ev1) ?_
  show mjGoL _ _ 577 ([some (.ref 2000000), some (.ref 0), some (.ref 43), some (.ref 74), some (.int (nI i)), o5, none, none], [.int v], mjH I2 X2) _
  refine mjGoL.run 5 (pc' := 583) (F' := ([some (.ref 2000000), some (.ref 0), some (.ref 43), some (.ref 74), some (.int (nI i)), o5, none, none], [.int ((nI i) + 1), .ref 2000000, .ref 43, .int v], mjH I2 X2)) (fun _ => rfl) ?_
  refine mjGoL.op (pc' := 584) (F' := ([some (.ref 2000000), some (.ref 0), some (.ref 43), some (.ref 74), some (.int (nI i)), o5, none, none], [.int (xs (i + 1)), .ref 43, .int v], mjH I2 X2)) (o := mjsldK L xs 584) rfl (fun _ => sldK_op (m := i + 1) (nI_add i 1) (by omega) hL) ?_
  refine mjGoL.call hm (n := 2) (j := 158) (nx := 587) (o := some (.int v)) (h' := mjH I3 X3) (fun _ => rfl) (ev2) ?_
  show mjGoL _ _ 587 ([some (.ref 2000000), some (.ref 0), some (.ref 43), some (.ref 74), some (.int (nI i)), o5, none, none], [.int v, .int v], mjH I3 X3) _
  refine mjGoL.run 1 (pc' := (bif decide (v = v) then 1524 else 590)) (F' := ([some (.ref 2000000), some (.ref 0), some (.ref 43), some (.ref 74), some (.int (nI i)), o5, none, none], [], mjH I3 X3)) (fun _ => rfl) ?_
  refine mjGoL.brT (rfl) ?_
  show mjGoL _ _ 1524 _ _
  exact g _ _ _ hR3 hg3
theorem law_12 {L : Nat} {xs : Nat → Int32} {e1 e2 e3 : MOp} (hL : L ≤ 3072) (hm : ∀ pc, mjMn (pL L xs e1 e2 e3 pc)) (hT : lTos e3) (hE : lElm e1 e2) (d : Nat) {i : Nat} {I : Nat → Nat → Int32} {X : MX} {o5 : Option Value} {r : MO × MH → Prop} (hi : i + 6 ≤ L) (hR : RI I X) (hN : X.2.2.2.1 ≤ 800000) (g : ∀ I3 X3 o5, RI I3 X3 → grw X X3 → mjGoL (pL L xs e1 e2 e3) (d + 13) 1524 ([some (.ref 2000000), some (.ref 0), some (.ref 43), some (.ref 74), some (.int (nI i)), o5, none, none], [], mjH I3 X3) r) : mjGoL (pL L xs e1 e2 e3) (d + 13) 592 ([some (.ref 2000000), some (.ref 0), some (.ref 43), some (.ref 74), some (.int (nI i)), o5, none, none], [], mjH I X) r := by
  refine mjGoL.run 5 (pc' := 598) (F' := ([some (.ref 2000000), some (.ref 0), some (.ref 43), some (.ref 74), some (.int (nI i)), o5, none, none], [.int ((nI i) + 1), .ref 2000000, .ref 0], mjH I X)) (fun _ => rfl) ?_
  refine mjGoL.op (pc' := 599) (F' := ([some (.ref 2000000), some (.ref 0), some (.ref 43), some (.ref 74), some (.int (nI i)), o5, none, none], [.int (xs (i + 1)), .ref 0], mjH I X)) (o := mjsldK L xs 599) rfl (fun _ => sldK_op (m := i + 1) (nI_add i 1) (by omega) hL) ?_
  obtain ⟨v, I2, X2, ev1, I3, X3, ev2, hR3, hg3⟩ := k_pays d (xs (i + 1)) I X hR hN
  refine mjGoL.call hm (n := 2) (j := 100) (nx := 602) (o := some (.int v)) (h' := mjH I2 X2) (fun _ => rfl) (ev1) ?_
  show mjGoL _ _ 602 ([some (.ref 2000000), some (.ref 0), some (.ref 43), some (.ref 74), some (.int (nI i)), o5, none, none], [.int v], mjH I2 X2) _
  refine mjGoL.run 5 (pc' := 608) (F' := ([some (.ref 2000000), some (.ref 0), some (.ref 43), some (.ref 74), some (.int (nI i)), o5, none, none], [.int ((nI i) + 1), .ref 2000000, .ref 43, .int v], mjH I2 X2)) (fun _ => rfl) ?_
  refine mjGoL.op (pc' := 609) (F' := ([some (.ref 2000000), some (.ref 0), some (.ref 43), some (.ref 74), some (.int (nI i)), o5, none, none], [.int (xs (i + 1)), .ref 43, .int v], mjH I2 X2)) (o := mjsldK L xs 609) rfl (fun _ => sldK_op (m := i + 1) (nI_add i 1) (by omega) hL) ?_
  refine mjGoL.call hm (n := 2) (j := 159) (nx := 612) (o := some (.int v)) (h' := mjH I3 X3) (fun _ => rfl) (ev2) ?_
  show mjGoL _ _ 612 ([some (.ref 2000000), some (.ref 0), some (.ref 43), some (.ref 74), some (.int (nI i)), o5, none, none], [.int v, .int v], mjH I3 X3) _
  refine mjGoL.run 1 (pc' := (bif decide (v = v) then 1524 else 615)) (F' := ([some (.ref 2000000), some (.ref 0), some (.ref 43), some (.ref 74), some (.int (nI i)), o5, none, none], [], mjH I3 X3)) (fun _ => rfl) ?_
  refine mjGoL.brT (rfl) ?_
  show mjGoL _ _ 1524 _ _
  exact g _ _ _ hR3 hg3
theorem law_13 {L : Nat} {xs : Nat → Int32} {e1 e2 e3 : MOp} (hL : L ≤ 3072) (hm : ∀ pc, mjMn (pL L xs e1 e2 e3 pc)) (hT : lTos e3) (hE : lElm e1 e2) (d : Nat) {i : Nat} {I : Nat → Nat → Int32} {X : MX} {o5 : Option Value} {r : MO × MH → Prop} (hi : i + 6 ≤ L) (hR : RI I X) (hN : X.2.2.2.1 ≤ 800000) (g : ∀ I3 X3 o5, RI I3 X3 → grw X X3 → mjGoL (pL L xs e1 e2 e3) (d + 13) 1524 ([some (.ref 2000000), some (.ref 0), some (.ref 43), some (.ref 74), some (.int (nI i)), o5, none, none], [], mjH I3 X3) r) : mjGoL (pL L xs e1 e2 e3) (d + 13) 617 ([some (.ref 2000000), some (.ref 0), some (.ref 43), some (.ref 74), some (.int (nI i)), o5, none, none], [], mjH I X) r := by
  refine mjGoL.run 5 (pc' := 623) (F' := ([some (.ref 2000000), some (.ref 0), some (.ref 43), some (.ref 74), some (.int (nI i)), o5, none, none], [.int ((nI i) + 1), .ref 2000000, .ref 0], mjH I X)) (fun _ => rfl) ?_
  refine mjGoL.op (pc' := 624) (F' := ([some (.ref 2000000), some (.ref 0), some (.ref 43), some (.ref 74), some (.int (nI i)), o5, none, none], [.int (xs (i + 1)), .ref 0], mjH I X)) (o := mjsldK L xs 624) rfl (fun _ => sldK_op (m := i + 1) (nI_add i 1) (by omega) hL) ?_
  obtain ⟨v, I2, X2, ev1, I3, X3, ev2, hR3, hg3⟩ := k_bestKind d (xs (i + 1)) I X hR hN
  refine mjGoL.call hm (n := 2) (j := 101) (nx := 627) (o := some (.int v)) (h' := mjH I2 X2) (fun _ => rfl) (ev1) ?_
  show mjGoL _ _ 627 ([some (.ref 2000000), some (.ref 0), some (.ref 43), some (.ref 74), some (.int (nI i)), o5, none, none], [.int v], mjH I2 X2) _
  refine mjGoL.run 5 (pc' := 633) (F' := ([some (.ref 2000000), some (.ref 0), some (.ref 43), some (.ref 74), some (.int (nI i)), o5, none, none], [.int ((nI i) + 1), .ref 2000000, .ref 43, .int v], mjH I2 X2)) (fun _ => rfl) ?_
  refine mjGoL.op (pc' := 634) (F' := ([some (.ref 2000000), some (.ref 0), some (.ref 43), some (.ref 74), some (.int (nI i)), o5, none, none], [.int (xs (i + 1)), .ref 43, .int v], mjH I2 X2)) (o := mjsldK L xs 634) rfl (fun _ => sldK_op (m := i + 1) (nI_add i 1) (by omega) hL) ?_
  refine mjGoL.call hm (n := 2) (j := 160) (nx := 637) (o := some (.int v)) (h' := mjH I3 X3) (fun _ => rfl) (ev2) ?_
  show mjGoL _ _ 637 ([some (.ref 2000000), some (.ref 0), some (.ref 43), some (.ref 74), some (.int (nI i)), o5, none, none], [.int v, .int v], mjH I3 X3) _
  refine mjGoL.run 1 (pc' := (bif decide (v = v) then 1524 else 640)) (F' := ([some (.ref 2000000), some (.ref 0), some (.ref 43), some (.ref 74), some (.int (nI i)), o5, none, none], [], mjH I3 X3)) (fun _ => rfl) ?_
  refine mjGoL.brT (rfl) ?_
  show mjGoL _ _ 1524 _ _
  exact g _ _ _ hR3 hg3
theorem law_14 {L : Nat} {xs : Nat → Int32} {e1 e2 e3 : MOp} (hL : L ≤ 3072) (hm : ∀ pc, mjMn (pL L xs e1 e2 e3 pc)) (hT : lTos e3) (hE : lElm e1 e2) (d : Nat) {i : Nat} {I : Nat → Nat → Int32} {X : MX} {o5 : Option Value} {r : MO × MH → Prop} (hi : i + 6 ≤ L) (hR : RI I X) (hN : X.2.2.2.1 ≤ 800000) (g : ∀ I3 X3 o5, RI I3 X3 → grw X X3 → mjGoL (pL L xs e1 e2 e3) (d + 13) 1524 ([some (.ref 2000000), some (.ref 0), some (.ref 43), some (.ref 74), some (.int (nI i)), o5, none, none], [], mjH I3 X3) r) : mjGoL (pL L xs e1 e2 e3) (d + 13) 642 ([some (.ref 2000000), some (.ref 0), some (.ref 43), some (.ref 74), some (.int (nI i)), o5, none, none], [], mjH I X) r := by
  refine mjGoL.run 5 (pc' := 648) (F' := ([some (.ref 2000000), some (.ref 0), some (.ref 43), some (.ref 74), some (.int (nI i)), o5, none, none], [.int ((nI i) + 1), .ref 2000000, .ref 0], mjH I X)) (fun _ => rfl) ?_
  refine mjGoL.op (pc' := 649) (F' := ([some (.ref 2000000), some (.ref 0), some (.ref 43), some (.ref 74), some (.int (nI i)), o5, none, none], [.int (xs (i + 1)), .ref 0], mjH I X)) (o := mjsldK L xs 649) rfl (fun _ => sldK_op (m := i + 1) (nI_add i 1) (by omega) hL) ?_
  refine mjGoL.run 4 (pc' := 654) (F' := ([some (.ref 2000000), some (.ref 0), some (.ref 43), some (.ref 74), some (.int (nI i)), o5, none, none], [.int ((nI i) + 2), .ref 2000000, .int (xs (i + 1)), .ref 0], mjH I X)) (fun _ => rfl) ?_
  refine mjGoL.op (pc' := 655) (F' := ([some (.ref 2000000), some (.ref 0), some (.ref 43), some (.ref 74), some (.int (nI i)), o5, none, none], [.int (xs (i + 2)), .int (xs (i + 1)), .ref 0], mjH I X)) (o := mjsldK L xs 655) rfl (fun _ => sldK_op (m := i + 2) (nI_add i 2) (by omega) hL) ?_
  obtain ⟨v, I2, X2, ev1, I3, X3, ev2, hR3, hg3⟩ := k_edge d (xs (i + 1)) (xs (i + 2)) I X hR hN
  refine mjGoL.call hm (n := 3) (j := 102) (nx := 658) (o := some (.int v)) (h' := mjH I2 X2) (fun _ => rfl) (ev1) ?_
  show mjGoL _ _ 658 ([some (.ref 2000000), some (.ref 0), some (.ref 43), some (.ref 74), some (.int (nI i)), o5, none, none], [.int v], mjH I2 X2) _
  refine mjGoL.run 5 (pc' := 664) (F' := ([some (.ref 2000000), some (.ref 0), some (.ref 43), some (.ref 74), some (.int (nI i)), o5, none, none], [.int ((nI i) + 1), .ref 2000000, .ref 43, .int v], mjH I2 X2)) (fun _ => rfl) ?_
  refine mjGoL.op (pc' := 665) (F' := ([some (.ref 2000000), some (.ref 0), some (.ref 43), some (.ref 74), some (.int (nI i)), o5, none, none], [.int (xs (i + 1)), .ref 43, .int v], mjH I2 X2)) (o := mjsldK L xs 665) rfl (fun _ => sldK_op (m := i + 1) (nI_add i 1) (by omega) hL) ?_
  refine mjGoL.run 4 (pc' := 670) (F' := ([some (.ref 2000000), some (.ref 0), some (.ref 43), some (.ref 74), some (.int (nI i)), o5, none, none], [.int ((nI i) + 2), .ref 2000000, .int (xs (i + 1)), .ref 43, .int v], mjH I2 X2)) (fun _ => rfl) ?_
  refine mjGoL.op (pc' := 671) (F' := ([some (.ref 2000000), some (.ref 0), some (.ref 43), some (.ref 74), some (.int (nI i)), o5, none, none], [.int (xs (i + 2)), .int (xs (i + 1)), .ref 43, .int v], mjH I2 X2)) (o := mjsldK L xs 671) rfl (fun _ => sldK_op (m := i + 2) (nI_add i 2) (by omega) hL) ?_
  refine mjGoL.call hm (n := 3) (j := 161) (nx := 674) (o := some (.int v)) (h' := mjH I3 X3) (fun _ => rfl) (ev2) ?_
  show mjGoL _ _ 674 ([some (.ref 2000000), some (.ref 0), some (.ref 43), some (.ref 74), some (.int (nI i)), o5, none, none], [.int v, .int v], mjH I3 X3) _
  refine mjGoL.run 1 (pc' := (bif decide (v = v) then 1524 else 677)) (F' := ([some (.ref 2000000), some (.ref 0), some (.ref 43), some (.ref 74), some (.int (nI i)), o5, none, none], [], mjH I3 X3)) (fun _ => rfl) ?_
  refine mjGoL.brT (rfl) ?_
  show mjGoL _ _ 1524 _ _
  exact g _ _ _ hR3 hg3
theorem law_15 {L : Nat} {xs : Nat → Int32} {e1 e2 e3 : MOp} (hL : L ≤ 3072) (hm : ∀ pc, mjMn (pL L xs e1 e2 e3 pc)) (hT : lTos e3) (hE : lElm e1 e2) (d : Nat) {i : Nat} {I : Nat → Nat → Int32} {X : MX} {o5 : Option Value} {r : MO × MH → Prop} (hi : i + 6 ≤ L) (hR : RI I X) (hN : X.2.2.2.1 ≤ 800000) (g : ∀ I3 X3 o5, RI I3 X3 → grw X X3 → mjGoL (pL L xs e1 e2 e3) (d + 13) 1524 ([some (.ref 2000000), some (.ref 0), some (.ref 43), some (.ref 74), some (.int (nI i)), o5, none, none], [], mjH I3 X3) r) : mjGoL (pL L xs e1 e2 e3) (d + 13) 679 ([some (.ref 2000000), some (.ref 0), some (.ref 43), some (.ref 74), some (.int (nI i)), o5, none, none], [], mjH I X) r := by
  refine mjGoL.run 5 (pc' := 685) (F' := ([some (.ref 2000000), some (.ref 0), some (.ref 43), some (.ref 74), some (.int (nI i)), o5, none, none], [.int ((nI i) + 1), .ref 2000000, .ref 0], mjH I X)) (fun _ => rfl) ?_
  refine mjGoL.op (pc' := 686) (F' := ([some (.ref 2000000), some (.ref 0), some (.ref 43), some (.ref 74), some (.int (nI i)), o5, none, none], [.int (xs (i + 1)), .ref 0], mjH I X)) (o := mjsldK L xs 686) rfl (fun _ => sldK_op (m := i + 1) (nI_add i 1) (by omega) hL) ?_
  refine mjGoL.run 4 (pc' := 691) (F' := ([some (.ref 2000000), some (.ref 0), some (.ref 43), some (.ref 74), some (.int (nI i)), o5, none, none], [.int ((nI i) + 2), .ref 2000000, .int (xs (i + 1)), .ref 0], mjH I X)) (fun _ => rfl) ?_
  refine mjGoL.op (pc' := 692) (F' := ([some (.ref 2000000), some (.ref 0), some (.ref 43), some (.ref 74), some (.int (nI i)), o5, none, none], [.int (xs (i + 2)), .int (xs (i + 1)), .ref 0], mjH I X)) (o := mjsldK L xs 692) rfl (fun _ => sldK_op (m := i + 2) (nI_add i 2) (by omega) hL) ?_
  obtain ⟨v, I2, X2, ev1, I3, X3, ev2, hR3, hg3⟩ := k_waits d (xs (i + 1)) (xs (i + 2)) I X hR hN
  refine mjGoL.call hm (n := 3) (j := 103) (nx := 695) (o := some (.int v)) (h' := mjH I2 X2) (fun _ => rfl) (ev1) ?_
  show mjGoL _ _ 695 ([some (.ref 2000000), some (.ref 0), some (.ref 43), some (.ref 74), some (.int (nI i)), o5, none, none], [.int v], mjH I2 X2) _
  refine mjGoL.run 5 (pc' := 701) (F' := ([some (.ref 2000000), some (.ref 0), some (.ref 43), some (.ref 74), some (.int (nI i)), o5, none, none], [.int ((nI i) + 1), .ref 2000000, .ref 43, .int v], mjH I2 X2)) (fun _ => rfl) ?_
  refine mjGoL.op (pc' := 702) (F' := ([some (.ref 2000000), some (.ref 0), some (.ref 43), some (.ref 74), some (.int (nI i)), o5, none, none], [.int (xs (i + 1)), .ref 43, .int v], mjH I2 X2)) (o := mjsldK L xs 702) rfl (fun _ => sldK_op (m := i + 1) (nI_add i 1) (by omega) hL) ?_
  refine mjGoL.run 4 (pc' := 707) (F' := ([some (.ref 2000000), some (.ref 0), some (.ref 43), some (.ref 74), some (.int (nI i)), o5, none, none], [.int ((nI i) + 2), .ref 2000000, .int (xs (i + 1)), .ref 43, .int v], mjH I2 X2)) (fun _ => rfl) ?_
  refine mjGoL.op (pc' := 708) (F' := ([some (.ref 2000000), some (.ref 0), some (.ref 43), some (.ref 74), some (.int (nI i)), o5, none, none], [.int (xs (i + 2)), .int (xs (i + 1)), .ref 43, .int v], mjH I2 X2)) (o := mjsldK L xs 708) rfl (fun _ => sldK_op (m := i + 2) (nI_add i 2) (by omega) hL) ?_
  refine mjGoL.call hm (n := 3) (j := 162) (nx := 711) (o := some (.int v)) (h' := mjH I3 X3) (fun _ => rfl) (ev2) ?_
  show mjGoL _ _ 711 ([some (.ref 2000000), some (.ref 0), some (.ref 43), some (.ref 74), some (.int (nI i)), o5, none, none], [.int v, .int v], mjH I3 X3) _
  refine mjGoL.run 1 (pc' := (bif decide (v = v) then 1524 else 714)) (F' := ([some (.ref 2000000), some (.ref 0), some (.ref 43), some (.ref 74), some (.int (nI i)), o5, none, none], [], mjH I3 X3)) (fun _ => rfl) ?_
  refine mjGoL.brT (rfl) ?_
  show mjGoL _ _ 1524 _ _
  exact g _ _ _ hR3 hg3
theorem law_16 {L : Nat} {xs : Nat → Int32} {e1 e2 e3 : MOp} (hL : L ≤ 3072) (hm : ∀ pc, mjMn (pL L xs e1 e2 e3 pc)) (hT : lTos e3) (hE : lElm e1 e2) (d : Nat) {i : Nat} {I : Nat → Nat → Int32} {X : MX} {o5 : Option Value} {r : MO × MH → Prop} (hi : i + 6 ≤ L) (hR : RI I X) (hN : X.2.2.2.1 ≤ 800000) (g : ∀ I3 X3 o5, RI I3 X3 → grw X X3 → mjGoL (pL L xs e1 e2 e3) (d + 13) 1524 ([some (.ref 2000000), some (.ref 0), some (.ref 43), some (.ref 74), some (.int (nI i)), o5, none, none], [], mjH I3 X3) r) : mjGoL (pL L xs e1 e2 e3) (d + 13) 716 ([some (.ref 2000000), some (.ref 0), some (.ref 43), some (.ref 74), some (.int (nI i)), o5, none, none], [], mjH I X) r := by
  refine mjGoL.run 5 (pc' := 722) (F' := ([some (.ref 2000000), some (.ref 0), some (.ref 43), some (.ref 74), some (.int (nI i)), o5, none, none], [.int ((nI i) + 1), .ref 2000000, .ref 0], mjH I X)) (fun _ => rfl) ?_
  refine mjGoL.op (pc' := 723) (F' := ([some (.ref 2000000), some (.ref 0), some (.ref 43), some (.ref 74), some (.int (nI i)), o5, none, none], [.int (xs (i + 1)), .ref 0], mjH I X)) (o := mjsldK L xs 723) rfl (fun _ => sldK_op (m := i + 1) (nI_add i 1) (by omega) hL) ?_
  refine mjGoL.run 4 (pc' := 728) (F' := ([some (.ref 2000000), some (.ref 0), some (.ref 43), some (.ref 74), some (.int (nI i)), o5, none, none], [.int ((nI i) + 2), .ref 2000000, .int (xs (i + 1)), .ref 0], mjH I X)) (fun _ => rfl) ?_
  refine mjGoL.op (pc' := 729) (F' := ([some (.ref 2000000), some (.ref 0), some (.ref 43), some (.ref 74), some (.int (nI i)), o5, none, none], [.int (xs (i + 2)), .int (xs (i + 1)), .ref 0], mjH I X)) (o := mjsldK L xs 729) rfl (fun _ => sldK_op (m := i + 2) (nI_add i 2) (by omega) hL) ?_
  obtain ⟨v, I2, X2, ev1, I3, X3, ev2, hR3, hg3⟩ := k_learn d (xs (i + 1)) (xs (i + 2)) I X hR hN
  refine mjGoL.call hm (n := 3) (j := 106) (nx := 732) (o := some (.int v)) (h' := mjH I2 X2) (fun _ => rfl) (ev1) ?_
  show mjGoL _ _ 732 ([some (.ref 2000000), some (.ref 0), some (.ref 43), some (.ref 74), some (.int (nI i)), o5, none, none], [.int v], mjH I2 X2) _
  refine mjGoL.run 5 (pc' := 738) (F' := ([some (.ref 2000000), some (.ref 0), some (.ref 43), some (.ref 74), some (.int (nI i)), o5, none, none], [.int ((nI i) + 1), .ref 2000000, .ref 43, .int v], mjH I2 X2)) (fun _ => rfl) ?_
  refine mjGoL.op (pc' := 739) (F' := ([some (.ref 2000000), some (.ref 0), some (.ref 43), some (.ref 74), some (.int (nI i)), o5, none, none], [.int (xs (i + 1)), .ref 43, .int v], mjH I2 X2)) (o := mjsldK L xs 739) rfl (fun _ => sldK_op (m := i + 1) (nI_add i 1) (by omega) hL) ?_
  refine mjGoL.run 4 (pc' := 744) (F' := ([some (.ref 2000000), some (.ref 0), some (.ref 43), some (.ref 74), some (.int (nI i)), o5, none, none], [.int ((nI i) + 2), .ref 2000000, .int (xs (i + 1)), .ref 43, .int v], mjH I2 X2)) (fun _ => rfl) ?_
  refine mjGoL.op (pc' := 745) (F' := ([some (.ref 2000000), some (.ref 0), some (.ref 43), some (.ref 74), some (.int (nI i)), o5, none, none], [.int (xs (i + 2)), .int (xs (i + 1)), .ref 43, .int v], mjH I2 X2)) (o := mjsldK L xs 745) rfl (fun _ => sldK_op (m := i + 2) (nI_add i 2) (by omega) hL) ?_
  refine mjGoL.call hm (n := 3) (j := 163) (nx := 748) (o := some (.int v)) (h' := mjH I3 X3) (fun _ => rfl) (ev2) ?_
  show mjGoL _ _ 748 ([some (.ref 2000000), some (.ref 0), some (.ref 43), some (.ref 74), some (.int (nI i)), o5, none, none], [.int v, .int v], mjH I3 X3) _
  refine mjGoL.run 1 (pc' := (bif decide (v = v) then 1524 else 751)) (F' := ([some (.ref 2000000), some (.ref 0), some (.ref 43), some (.ref 74), some (.int (nI i)), o5, none, none], [], mjH I3 X3)) (fun _ => rfl) ?_
  refine mjGoL.brT (rfl) ?_
  show mjGoL _ _ 1524 _ _
  exact g _ _ _ hR3 hg3
theorem law_17 {L : Nat} {xs : Nat → Int32} {e1 e2 e3 : MOp} (hL : L ≤ 3072) (hm : ∀ pc, mjMn (pL L xs e1 e2 e3 pc)) (hT : lTos e3) (hE : lElm e1 e2) (d : Nat) {i : Nat} {I : Nat → Nat → Int32} {X : MX} {o5 : Option Value} {r : MO × MH → Prop} (hi : i + 6 ≤ L) (hR : RI I X) (hN : X.2.2.2.1 ≤ 800000) (g : ∀ I3 X3 o5, RI I3 X3 → grw X X3 → mjGoL (pL L xs e1 e2 e3) (d + 13) 1524 ([some (.ref 2000000), some (.ref 0), some (.ref 43), some (.ref 74), some (.int (nI i)), o5, none, none], [], mjH I3 X3) r) : mjGoL (pL L xs e1 e2 e3) (d + 13) 753 ([some (.ref 2000000), some (.ref 0), some (.ref 43), some (.ref 74), some (.int (nI i)), o5, none, none], [], mjH I X) r := by
  refine mjGoL.run 5 (pc' := 759) (F' := ([some (.ref 2000000), some (.ref 0), some (.ref 43), some (.ref 74), some (.int (nI i)), o5, none, none], [.int ((nI i) + 1), .ref 2000000, .ref 0], mjH I X)) (fun _ => rfl) ?_
  refine mjGoL.op (pc' := 760) (F' := ([some (.ref 2000000), some (.ref 0), some (.ref 43), some (.ref 74), some (.int (nI i)), o5, none, none], [.int (xs (i + 1)), .ref 0], mjH I X)) (o := mjsldK L xs 760) rfl (fun _ => sldK_op (m := i + 1) (nI_add i 1) (by omega) hL) ?_
  refine mjGoL.run 4 (pc' := 765) (F' := ([some (.ref 2000000), some (.ref 0), some (.ref 43), some (.ref 74), some (.int (nI i)), o5, none, none], [.int ((nI i) + 2), .ref 2000000, .int (xs (i + 1)), .ref 0], mjH I X)) (fun _ => rfl) ?_
  refine mjGoL.op (pc' := 766) (F' := ([some (.ref 2000000), some (.ref 0), some (.ref 43), some (.ref 74), some (.int (nI i)), o5, none, none], [.int (xs (i + 2)), .int (xs (i + 1)), .ref 0], mjH I X)) (o := mjsldK L xs 766) rfl (fun _ => sldK_op (m := i + 2) (nI_add i 2) (by omega) hL) ?_
  obtain ⟨v, I2, X2, ev1, I3, X3, ev2, hR3, hg3⟩ := k_shared d (xs (i + 1)) (xs (i + 2)) I X hR hN
  refine mjGoL.call hm (n := 3) (j := 107) (nx := 769) (o := some (.int v)) (h' := mjH I2 X2) (fun _ => rfl) (ev1) ?_
  show mjGoL _ _ 769 ([some (.ref 2000000), some (.ref 0), some (.ref 43), some (.ref 74), some (.int (nI i)), o5, none, none], [.int v], mjH I2 X2) _
  refine mjGoL.run 5 (pc' := 775) (F' := ([some (.ref 2000000), some (.ref 0), some (.ref 43), some (.ref 74), some (.int (nI i)), o5, none, none], [.int ((nI i) + 1), .ref 2000000, .ref 43, .int v], mjH I2 X2)) (fun _ => rfl) ?_
  refine mjGoL.op (pc' := 776) (F' := ([some (.ref 2000000), some (.ref 0), some (.ref 43), some (.ref 74), some (.int (nI i)), o5, none, none], [.int (xs (i + 1)), .ref 43, .int v], mjH I2 X2)) (o := mjsldK L xs 776) rfl (fun _ => sldK_op (m := i + 1) (nI_add i 1) (by omega) hL) ?_
  refine mjGoL.run 4 (pc' := 781) (F' := ([some (.ref 2000000), some (.ref 0), some (.ref 43), some (.ref 74), some (.int (nI i)), o5, none, none], [.int ((nI i) + 2), .ref 2000000, .int (xs (i + 1)), .ref 43, .int v], mjH I2 X2)) (fun _ => rfl) ?_
  refine mjGoL.op (pc' := 782) (F' := ([some (.ref 2000000), some (.ref 0), some (.ref 43), some (.ref 74), some (.int (nI i)), o5, none, none], [.int (xs (i + 2)), .int (xs (i + 1)), .ref 43, .int v], mjH I2 X2)) (o := mjsldK L xs 782) rfl (fun _ => sldK_op (m := i + 2) (nI_add i 2) (by omega) hL) ?_
  refine mjGoL.call hm (n := 3) (j := 165) (nx := 785) (o := some (.int v)) (h' := mjH I3 X3) (fun _ => rfl) (ev2) ?_
  show mjGoL _ _ 785 ([some (.ref 2000000), some (.ref 0), some (.ref 43), some (.ref 74), some (.int (nI i)), o5, none, none], [.int v, .int v], mjH I3 X3) _
  refine mjGoL.run 1 (pc' := (bif decide (v = v) then 1524 else 788)) (F' := ([some (.ref 2000000), some (.ref 0), some (.ref 43), some (.ref 74), some (.int (nI i)), o5, none, none], [], mjH I3 X3)) (fun _ => rfl) ?_
  refine mjGoL.brT (rfl) ?_
  show mjGoL _ _ 1524 _ _
  exact g _ _ _ hR3 hg3
theorem law_18 {L : Nat} {xs : Nat → Int32} {e1 e2 e3 : MOp} (hL : L ≤ 3072) (hm : ∀ pc, mjMn (pL L xs e1 e2 e3 pc)) (hT : lTos e3) (hE : lElm e1 e2) (d : Nat) {i : Nat} {I : Nat → Nat → Int32} {X : MX} {o5 : Option Value} {r : MO × MH → Prop} (hi : i + 6 ≤ L) (hR : RI I X) (hN : X.2.2.2.1 ≤ 800000) (g : ∀ I3 X3 o5, RI I3 X3 → grw X X3 → mjGoL (pL L xs e1 e2 e3) (d + 13) 1524 ([some (.ref 2000000), some (.ref 0), some (.ref 43), some (.ref 74), some (.int (nI i)), o5, none, none], [], mjH I3 X3) r) : mjGoL (pL L xs e1 e2 e3) (d + 13) 790 ([some (.ref 2000000), some (.ref 0), some (.ref 43), some (.ref 74), some (.int (nI i)), o5, none, none], [], mjH I X) r := by
  refine mjGoL.run 5 (pc' := 796) (F' := ([some (.ref 2000000), some (.ref 0), some (.ref 43), some (.ref 74), some (.int (nI i)), o5, none, none], [.int ((nI i) + 1), .ref 2000000, .ref 0], mjH I X)) (fun _ => rfl) ?_
  refine mjGoL.op (pc' := 797) (F' := ([some (.ref 2000000), some (.ref 0), some (.ref 43), some (.ref 74), some (.int (nI i)), o5, none, none], [.int (xs (i + 1)), .ref 0], mjH I X)) (o := mjsldK L xs 797) rfl (fun _ => sldK_op (m := i + 1) (nI_add i 1) (by omega) hL) ?_
  refine mjGoL.run 4 (pc' := 802) (F' := ([some (.ref 2000000), some (.ref 0), some (.ref 43), some (.ref 74), some (.int (nI i)), o5, none, none], [.int ((nI i) + 2), .ref 2000000, .int (xs (i + 1)), .ref 0], mjH I X)) (fun _ => rfl) ?_
  refine mjGoL.op (pc' := 803) (F' := ([some (.ref 2000000), some (.ref 0), some (.ref 43), some (.ref 74), some (.int (nI i)), o5, none, none], [.int (xs (i + 2)), .int (xs (i + 1)), .ref 0], mjH I X)) (o := mjsldK L xs 803) rfl (fun _ => sldK_op (m := i + 2) (nI_add i 2) (by omega) hL) ?_
  obtain ⟨v, I2, X2, ev1, I3, X3, ev2, hR3, hg3⟩ := k_nine d (xs (i + 1)) (xs (i + 2)) I X hR hN
  refine mjGoL.call hm (n := 3) (j := 108) (nx := 806) (o := some (.int v)) (h' := mjH I2 X2) (fun _ => rfl) (ev1) ?_
  show mjGoL _ _ 806 ([some (.ref 2000000), some (.ref 0), some (.ref 43), some (.ref 74), some (.int (nI i)), o5, none, none], [.int v], mjH I2 X2) _
  refine mjGoL.run 5 (pc' := 812) (F' := ([some (.ref 2000000), some (.ref 0), some (.ref 43), some (.ref 74), some (.int (nI i)), o5, none, none], [.int ((nI i) + 1), .ref 2000000, .ref 43, .int v], mjH I2 X2)) (fun _ => rfl) ?_
  refine mjGoL.op (pc' := 813) (F' := ([some (.ref 2000000), some (.ref 0), some (.ref 43), some (.ref 74), some (.int (nI i)), o5, none, none], [.int (xs (i + 1)), .ref 43, .int v], mjH I2 X2)) (o := mjsldK L xs 813) rfl (fun _ => sldK_op (m := i + 1) (nI_add i 1) (by omega) hL) ?_
  refine mjGoL.run 4 (pc' := 818) (F' := ([some (.ref 2000000), some (.ref 0), some (.ref 43), some (.ref 74), some (.int (nI i)), o5, none, none], [.int ((nI i) + 2), .ref 2000000, .int (xs (i + 1)), .ref 43, .int v], mjH I2 X2)) (fun _ => rfl) ?_
  refine mjGoL.op (pc' := 819) (F' := ([some (.ref 2000000), some (.ref 0), some (.ref 43), some (.ref 74), some (.int (nI i)), o5, none, none], [.int (xs (i + 2)), .int (xs (i + 1)), .ref 43, .int v], mjH I2 X2)) (o := mjsldK L xs 819) rfl (fun _ => sldK_op (m := i + 2) (nI_add i 2) (by omega) hL) ?_
  refine mjGoL.call hm (n := 3) (j := 166) (nx := 822) (o := some (.int v)) (h' := mjH I3 X3) (fun _ => rfl) (ev2) ?_
  show mjGoL _ _ 822 ([some (.ref 2000000), some (.ref 0), some (.ref 43), some (.ref 74), some (.int (nI i)), o5, none, none], [.int v, .int v], mjH I3 X3) _
  refine mjGoL.run 1 (pc' := (bif decide (v = v) then 1524 else 825)) (F' := ([some (.ref 2000000), some (.ref 0), some (.ref 43), some (.ref 74), some (.int (nI i)), o5, none, none], [], mjH I3 X3)) (fun _ => rfl) ?_
  refine mjGoL.brT (rfl) ?_
  show mjGoL _ _ 1524 _ _
  exact g _ _ _ hR3 hg3
theorem law_19 {L : Nat} {xs : Nat → Int32} {e1 e2 e3 : MOp} (hL : L ≤ 3072) (hm : ∀ pc, mjMn (pL L xs e1 e2 e3 pc)) (hT : lTos e3) (hE : lElm e1 e2) (d : Nat) {i : Nat} {I : Nat → Nat → Int32} {X : MX} {o5 : Option Value} {r : MO × MH → Prop} (hi : i + 6 ≤ L) (hR : RI I X) (hN : X.2.2.2.1 ≤ 800000) (g : ∀ I3 X3 o5, RI I3 X3 → grw X X3 → mjGoL (pL L xs e1 e2 e3) (d + 13) 1524 ([some (.ref 2000000), some (.ref 0), some (.ref 43), some (.ref 74), some (.int (nI i)), o5, none, none], [], mjH I3 X3) r) : mjGoL (pL L xs e1 e2 e3) (d + 13) 827 ([some (.ref 2000000), some (.ref 0), some (.ref 43), some (.ref 74), some (.int (nI i)), o5, none, none], [], mjH I X) r := by
  refine mjGoL.run 5 (pc' := 833) (F' := ([some (.ref 2000000), some (.ref 0), some (.ref 43), some (.ref 74), some (.int (nI i)), o5, none, none], [.int ((nI i) + 1), .ref 2000000, .ref 0], mjH I X)) (fun _ => rfl) ?_
  refine mjGoL.op (pc' := 834) (F' := ([some (.ref 2000000), some (.ref 0), some (.ref 43), some (.ref 74), some (.int (nI i)), o5, none, none], [.int (xs (i + 1)), .ref 0], mjH I X)) (o := mjsldK L xs 834) rfl (fun _ => sldK_op (m := i + 1) (nI_add i 1) (by omega) hL) ?_
  refine mjGoL.run 4 (pc' := 839) (F' := ([some (.ref 2000000), some (.ref 0), some (.ref 43), some (.ref 74), some (.int (nI i)), o5, none, none], [.int ((nI i) + 2), .ref 2000000, .int (xs (i + 1)), .ref 0], mjH I X)) (fun _ => rfl) ?_
  refine mjGoL.op (pc' := 840) (F' := ([some (.ref 2000000), some (.ref 0), some (.ref 43), some (.ref 74), some (.int (nI i)), o5, none, none], [.int (xs (i + 2)), .int (xs (i + 1)), .ref 0], mjH I X)) (o := mjsldK L xs 840) rfl (fun _ => sldK_op (m := i + 2) (nI_add i 2) (by omega) hL) ?_
  refine mjGoL.run 4 (pc' := 845) (F' := ([some (.ref 2000000), some (.ref 0), some (.ref 43), some (.ref 74), some (.int (nI i)), o5, none, none], [.int ((nI i) + 3), .ref 2000000, .int (xs (i + 2)), .int (xs (i + 1)), .ref 0], mjH I X)) (fun _ => rfl) ?_
  refine mjGoL.op (pc' := 846) (F' := ([some (.ref 2000000), some (.ref 0), some (.ref 43), some (.ref 74), some (.int (nI i)), o5, none, none], [.int (xs (i + 3)), .int (xs (i + 2)), .int (xs (i + 1)), .ref 0], mjH I X)) (o := mjsldK L xs 846) rfl (fun _ => sldK_op (m := i + 3) (nI_add i 3) (by omega) hL) ?_
  refine mjGoL.run 4 (pc' := 851) (F' := ([some (.ref 2000000), some (.ref 0), some (.ref 43), some (.ref 74), some (.int (nI i)), o5, none, none], [.int ((nI i) + 4), .ref 2000000, .int (xs (i + 3)), .int (xs (i + 2)), .int (xs (i + 1)), .ref 0], mjH I X)) (fun _ => rfl) ?_
  refine mjGoL.op (pc' := 852) (F' := ([some (.ref 2000000), some (.ref 0), some (.ref 43), some (.ref 74), some (.int (nI i)), o5, none, none], [.int (xs (i + 4)), .int (xs (i + 3)), .int (xs (i + 2)), .int (xs (i + 1)), .ref 0], mjH I X)) (o := mjsldK L xs 852) rfl (fun _ => sldK_op (m := i + 4) (nI_add i 4) (by omega) hL) ?_
  obtain ⟨v, I2, X2, ev1, I3, X3, ev2, hR3, hg3⟩ := k_buys d (xs (i + 1)) (xs (i + 2)) (xs (i + 3)) (xs (i + 4)) I X hR hN
  refine mjGoL.call hm (n := 5) (j := 110) (nx := 855) (o := some (.int v)) (h' := mjH I2 X2) (fun _ => rfl) (ev1) ?_
  show mjGoL _ _ 855 ([some (.ref 2000000), some (.ref 0), some (.ref 43), some (.ref 74), some (.int (nI i)), o5, none, none], [.int v], mjH I2 X2) _
  refine mjGoL.run 5 (pc' := 861) (F' := ([some (.ref 2000000), some (.ref 0), some (.ref 43), some (.ref 74), some (.int (nI i)), o5, none, none], [.int ((nI i) + 1), .ref 2000000, .ref 43, .int v], mjH I2 X2)) (fun _ => rfl) ?_
  refine mjGoL.op (pc' := 862) (F' := ([some (.ref 2000000), some (.ref 0), some (.ref 43), some (.ref 74), some (.int (nI i)), o5, none, none], [.int (xs (i + 1)), .ref 43, .int v], mjH I2 X2)) (o := mjsldK L xs 862) rfl (fun _ => sldK_op (m := i + 1) (nI_add i 1) (by omega) hL) ?_
  refine mjGoL.run 4 (pc' := 867) (F' := ([some (.ref 2000000), some (.ref 0), some (.ref 43), some (.ref 74), some (.int (nI i)), o5, none, none], [.int ((nI i) + 2), .ref 2000000, .int (xs (i + 1)), .ref 43, .int v], mjH I2 X2)) (fun _ => rfl) ?_
  refine mjGoL.op (pc' := 868) (F' := ([some (.ref 2000000), some (.ref 0), some (.ref 43), some (.ref 74), some (.int (nI i)), o5, none, none], [.int (xs (i + 2)), .int (xs (i + 1)), .ref 43, .int v], mjH I2 X2)) (o := mjsldK L xs 868) rfl (fun _ => sldK_op (m := i + 2) (nI_add i 2) (by omega) hL) ?_
  refine mjGoL.run 4 (pc' := 873) (F' := ([some (.ref 2000000), some (.ref 0), some (.ref 43), some (.ref 74), some (.int (nI i)), o5, none, none], [.int ((nI i) + 3), .ref 2000000, .int (xs (i + 2)), .int (xs (i + 1)), .ref 43, .int v], mjH I2 X2)) (fun _ => rfl) ?_
  refine mjGoL.op (pc' := 874) (F' := ([some (.ref 2000000), some (.ref 0), some (.ref 43), some (.ref 74), some (.int (nI i)), o5, none, none], [.int (xs (i + 3)), .int (xs (i + 2)), .int (xs (i + 1)), .ref 43, .int v], mjH I2 X2)) (o := mjsldK L xs 874) rfl (fun _ => sldK_op (m := i + 3) (nI_add i 3) (by omega) hL) ?_
  refine mjGoL.run 4 (pc' := 879) (F' := ([some (.ref 2000000), some (.ref 0), some (.ref 43), some (.ref 74), some (.int (nI i)), o5, none, none], [.int ((nI i) + 4), .ref 2000000, .int (xs (i + 3)), .int (xs (i + 2)), .int (xs (i + 1)), .ref 43, .int v], mjH I2 X2)) (fun _ => rfl) ?_
  refine mjGoL.op (pc' := 880) (F' := ([some (.ref 2000000), some (.ref 0), some (.ref 43), some (.ref 74), some (.int (nI i)), o5, none, none], [.int (xs (i + 4)), .int (xs (i + 3)), .int (xs (i + 2)), .int (xs (i + 1)), .ref 43, .int v], mjH I2 X2)) (o := mjsldK L xs 880) rfl (fun _ => sldK_op (m := i + 4) (nI_add i 4) (by omega) hL) ?_
  refine mjGoL.call hm (n := 5) (j := 168) (nx := 883) (o := some (.int v)) (h' := mjH I3 X3) (fun _ => rfl) (ev2) ?_
  show mjGoL _ _ 883 ([some (.ref 2000000), some (.ref 0), some (.ref 43), some (.ref 74), some (.int (nI i)), o5, none, none], [.int v, .int v], mjH I3 X3) _
  refine mjGoL.run 1 (pc' := (bif decide (v = v) then 1524 else 886)) (F' := ([some (.ref 2000000), some (.ref 0), some (.ref 43), some (.ref 74), some (.int (nI i)), o5, none, none], [], mjH I3 X3)) (fun _ => rfl) ?_
  refine mjGoL.brT (rfl) ?_
  show mjGoL _ _ 1524 _ _
  exact g _ _ _ hR3 hg3
theorem law_20 {L : Nat} {xs : Nat → Int32} {e1 e2 e3 : MOp} (hL : L ≤ 3072) (hm : ∀ pc, mjMn (pL L xs e1 e2 e3 pc)) (hT : lTos e3) (hE : lElm e1 e2) (d : Nat) {i : Nat} {I : Nat → Nat → Int32} {X : MX} {o5 : Option Value} {r : MO × MH → Prop} (hi : i + 6 ≤ L) (hR : RI I X) (hN : X.2.2.2.1 ≤ 800000) (g : ∀ I3 X3 o5, RI I3 X3 → grw X X3 → mjGoL (pL L xs e1 e2 e3) (d + 13) 1524 ([some (.ref 2000000), some (.ref 0), some (.ref 43), some (.ref 74), some (.int (nI i)), o5, none, none], [], mjH I3 X3) r) : mjGoL (pL L xs e1 e2 e3) (d + 13) 888 ([some (.ref 2000000), some (.ref 0), some (.ref 43), some (.ref 74), some (.int (nI i)), o5, none, none], [], mjH I X) r := by
  refine mjGoL.run 5 (pc' := 894) (F' := ([some (.ref 2000000), some (.ref 0), some (.ref 43), some (.ref 74), some (.int (nI i)), o5, none, none], [.int ((nI i) + 1), .ref 2000000, .ref 0], mjH I X)) (fun _ => rfl) ?_
  refine mjGoL.op (pc' := 895) (F' := ([some (.ref 2000000), some (.ref 0), some (.ref 43), some (.ref 74), some (.int (nI i)), o5, none, none], [.int (xs (i + 1)), .ref 0], mjH I X)) (o := mjsldK L xs 895) rfl (fun _ => sldK_op (m := i + 1) (nI_add i 1) (by omega) hL) ?_
  refine mjGoL.run 4 (pc' := 900) (F' := ([some (.ref 2000000), some (.ref 0), some (.ref 43), some (.ref 74), some (.int (nI i)), o5, none, none], [.int ((nI i) + 2), .ref 2000000, .int (xs (i + 1)), .ref 0], mjH I X)) (fun _ => rfl) ?_
  refine mjGoL.op (pc' := 901) (F' := ([some (.ref 2000000), some (.ref 0), some (.ref 43), some (.ref 74), some (.int (nI i)), o5, none, none], [.int (xs (i + 2)), .int (xs (i + 1)), .ref 0], mjH I X)) (o := mjsldK L xs 901) rfl (fun _ => sldK_op (m := i + 2) (nI_add i 2) (by omega) hL) ?_
  refine mjGoL.run 4 (pc' := 906) (F' := ([some (.ref 2000000), some (.ref 0), some (.ref 43), some (.ref 74), some (.int (nI i)), o5, none, none], [.int ((nI i) + 3), .ref 2000000, .int (xs (i + 2)), .int (xs (i + 1)), .ref 0], mjH I X)) (fun _ => rfl) ?_
  refine mjGoL.op (pc' := 907) (F' := ([some (.ref 2000000), some (.ref 0), some (.ref 43), some (.ref 74), some (.int (nI i)), o5, none, none], [.int (xs (i + 3)), .int (xs (i + 2)), .int (xs (i + 1)), .ref 0], mjH I X)) (o := mjsldK L xs 907) rfl (fun _ => sldK_op (m := i + 3) (nI_add i 3) (by omega) hL) ?_
  obtain ⟨v, I2, X2, ev1, I3, X3, ev2, hR3, hg3⟩ := k_rest d (xs (i + 1)) (xs (i + 2)) (xs (i + 3)) I X hR hN
  refine mjGoL.call hm (n := 4) (j := 111) (nx := 910) (o := some (.int v)) (h' := mjH I2 X2) (fun _ => rfl) (ev1) ?_
  show mjGoL _ _ 910 ([some (.ref 2000000), some (.ref 0), some (.ref 43), some (.ref 74), some (.int (nI i)), o5, none, none], [.int v], mjH I2 X2) _
  refine mjGoL.run 5 (pc' := 916) (F' := ([some (.ref 2000000), some (.ref 0), some (.ref 43), some (.ref 74), some (.int (nI i)), o5, none, none], [.int ((nI i) + 1), .ref 2000000, .ref 43, .int v], mjH I2 X2)) (fun _ => rfl) ?_
  refine mjGoL.op (pc' := 917) (F' := ([some (.ref 2000000), some (.ref 0), some (.ref 43), some (.ref 74), some (.int (nI i)), o5, none, none], [.int (xs (i + 1)), .ref 43, .int v], mjH I2 X2)) (o := mjsldK L xs 917) rfl (fun _ => sldK_op (m := i + 1) (nI_add i 1) (by omega) hL) ?_
  refine mjGoL.run 4 (pc' := 922) (F' := ([some (.ref 2000000), some (.ref 0), some (.ref 43), some (.ref 74), some (.int (nI i)), o5, none, none], [.int ((nI i) + 2), .ref 2000000, .int (xs (i + 1)), .ref 43, .int v], mjH I2 X2)) (fun _ => rfl) ?_
  refine mjGoL.op (pc' := 923) (F' := ([some (.ref 2000000), some (.ref 0), some (.ref 43), some (.ref 74), some (.int (nI i)), o5, none, none], [.int (xs (i + 2)), .int (xs (i + 1)), .ref 43, .int v], mjH I2 X2)) (o := mjsldK L xs 923) rfl (fun _ => sldK_op (m := i + 2) (nI_add i 2) (by omega) hL) ?_
  refine mjGoL.run 4 (pc' := 928) (F' := ([some (.ref 2000000), some (.ref 0), some (.ref 43), some (.ref 74), some (.int (nI i)), o5, none, none], [.int ((nI i) + 3), .ref 2000000, .int (xs (i + 2)), .int (xs (i + 1)), .ref 43, .int v], mjH I2 X2)) (fun _ => rfl) ?_
  refine mjGoL.op (pc' := 929) (F' := ([some (.ref 2000000), some (.ref 0), some (.ref 43), some (.ref 74), some (.int (nI i)), o5, none, none], [.int (xs (i + 3)), .int (xs (i + 2)), .int (xs (i + 1)), .ref 43, .int v], mjH I2 X2)) (o := mjsldK L xs 929) rfl (fun _ => sldK_op (m := i + 3) (nI_add i 3) (by omega) hL) ?_
  refine mjGoL.call hm (n := 4) (j := 169) (nx := 932) (o := some (.int v)) (h' := mjH I3 X3) (fun _ => rfl) (ev2) ?_
  show mjGoL _ _ 932 ([some (.ref 2000000), some (.ref 0), some (.ref 43), some (.ref 74), some (.int (nI i)), o5, none, none], [.int v, .int v], mjH I3 X3) _
  refine mjGoL.run 1 (pc' := (bif decide (v = v) then 1524 else 935)) (F' := ([some (.ref 2000000), some (.ref 0), some (.ref 43), some (.ref 74), some (.int (nI i)), o5, none, none], [], mjH I3 X3)) (fun _ => rfl) ?_
  refine mjGoL.brT (rfl) ?_
  show mjGoL _ _ 1524 _ _
  exact g _ _ _ hR3 hg3
theorem law_21 {L : Nat} {xs : Nat → Int32} {e1 e2 e3 : MOp} (hL : L ≤ 3072) (hm : ∀ pc, mjMn (pL L xs e1 e2 e3 pc)) (hT : lTos e3) (hE : lElm e1 e2) (d : Nat) {i : Nat} {I : Nat → Nat → Int32} {X : MX} {o5 : Option Value} {r : MO × MH → Prop} (hi : i + 6 ≤ L) (hR : RI I X) (hN : X.2.2.2.1 ≤ 800000) (g : ∀ I3 X3 o5, RI I3 X3 → grw X X3 → mjGoL (pL L xs e1 e2 e3) (d + 13) 1524 ([some (.ref 2000000), some (.ref 0), some (.ref 43), some (.ref 74), some (.int (nI i)), o5, none, none], [], mjH I3 X3) r) : mjGoL (pL L xs e1 e2 e3) (d + 13) 937 ([some (.ref 2000000), some (.ref 0), some (.ref 43), some (.ref 74), some (.int (nI i)), o5, none, none], [], mjH I X) r := by
  refine mjGoL.run 5 (pc' := 943) (F' := ([some (.ref 2000000), some (.ref 0), some (.ref 43), some (.ref 74), some (.int (nI i)), o5, none, none], [.int ((nI i) + 1), .ref 2000000, .ref 0], mjH I X)) (fun _ => rfl) ?_
  refine mjGoL.op (pc' := 944) (F' := ([some (.ref 2000000), some (.ref 0), some (.ref 43), some (.ref 74), some (.int (nI i)), o5, none, none], [.int (xs (i + 1)), .ref 0], mjH I X)) (o := mjsldK L xs 944) rfl (fun _ => sldK_op (m := i + 1) (nI_add i 1) (by omega) hL) ?_
  obtain ⟨v, I2, X2, ev1, I3, X3, ev2, hR3, hg3⟩ := k_cheaper d (xs (i + 1)) I X hR hN
  refine mjGoL.call hm (n := 2) (j := 113) (nx := 947) (o := some (.int v)) (h' := mjH I2 X2) (fun _ => rfl) (ev1) ?_
  show mjGoL _ _ 947 ([some (.ref 2000000), some (.ref 0), some (.ref 43), some (.ref 74), some (.int (nI i)), o5, none, none], [.int v], mjH I2 X2) _
  refine mjGoL.run 5 (pc' := 953) (F' := ([some (.ref 2000000), some (.ref 0), some (.ref 43), some (.ref 74), some (.int (nI i)), o5, none, none], [.int ((nI i) + 1), .ref 2000000, .ref 43, .int v], mjH I2 X2)) (fun _ => rfl) ?_
  refine mjGoL.op (pc' := 954) (F' := ([some (.ref 2000000), some (.ref 0), some (.ref 43), some (.ref 74), some (.int (nI i)), o5, none, none], [.int (xs (i + 1)), .ref 43, .int v], mjH I2 X2)) (o := mjsldK L xs 954) rfl (fun _ => sldK_op (m := i + 1) (nI_add i 1) (by omega) hL) ?_
  refine mjGoL.call hm (n := 2) (j := 171) (nx := 957) (o := some (.int v)) (h' := mjH I3 X3) (fun _ => rfl) (ev2) ?_
  show mjGoL _ _ 957 ([some (.ref 2000000), some (.ref 0), some (.ref 43), some (.ref 74), some (.int (nI i)), o5, none, none], [.int v, .int v], mjH I3 X3) _
  refine mjGoL.run 1 (pc' := (bif decide (v = v) then 1524 else 960)) (F' := ([some (.ref 2000000), some (.ref 0), some (.ref 43), some (.ref 74), some (.int (nI i)), o5, none, none], [], mjH I3 X3)) (fun _ => rfl) ?_
  refine mjGoL.brT (rfl) ?_
  show mjGoL _ _ 1524 _ _
  exact g _ _ _ hR3 hg3
theorem law_22 {L : Nat} {xs : Nat → Int32} {e1 e2 e3 : MOp} (hL : L ≤ 3072) (hm : ∀ pc, mjMn (pL L xs e1 e2 e3 pc)) (hT : lTos e3) (hE : lElm e1 e2) (d : Nat) {i : Nat} {I : Nat → Nat → Int32} {X : MX} {o5 : Option Value} {r : MO × MH → Prop} (hi : i + 6 ≤ L) (hR : RI I X) (hN : X.2.2.2.1 ≤ 800000) (g : ∀ I3 X3 o5, RI I3 X3 → grw X X3 → mjGoL (pL L xs e1 e2 e3) (d + 13) 1524 ([some (.ref 2000000), some (.ref 0), some (.ref 43), some (.ref 74), some (.int (nI i)), o5, none, none], [], mjH I3 X3) r) : mjGoL (pL L xs e1 e2 e3) (d + 13) 962 ([some (.ref 2000000), some (.ref 0), some (.ref 43), some (.ref 74), some (.int (nI i)), o5, none, none], [], mjH I X) r := by
  refine mjGoL.run 1 (pc' := 963) (F' := ([some (.ref 2000000), some (.ref 0), some (.ref 43), some (.ref 74), some (.int (nI i)), o5, none, none], [.ref 0], mjH I X)) (fun _ => rfl) ?_
  obtain ⟨v, I2, X2, ev1, I3, X3, ev2, hR3, hg3⟩ := k_otherCheaper d I X hR hN
  refine mjGoL.call hm (n := 1) (j := 114) (nx := 966) (o := some (.int v)) (h' := mjH I2 X2) (fun _ => rfl) (ev1) ?_
  show mjGoL _ _ 966 ([some (.ref 2000000), some (.ref 0), some (.ref 43), some (.ref 74), some (.int (nI i)), o5, none, none], [.int v], mjH I2 X2) _
  refine mjGoL.run 1 (pc' := 967) (F' := ([some (.ref 2000000), some (.ref 0), some (.ref 43), some (.ref 74), some (.int (nI i)), o5, none, none], [.ref 43, .int v], mjH I2 X2)) (fun _ => rfl) ?_
  refine mjGoL.call hm (n := 1) (j := 172) (nx := 970) (o := some (.int v)) (h' := mjH I3 X3) (fun _ => rfl) (ev2) ?_
  show mjGoL _ _ 970 ([some (.ref 2000000), some (.ref 0), some (.ref 43), some (.ref 74), some (.int (nI i)), o5, none, none], [.int v, .int v], mjH I3 X3) _
  refine mjGoL.run 1 (pc' := (bif decide (v = v) then 1524 else 973)) (F' := ([some (.ref 2000000), some (.ref 0), some (.ref 43), some (.ref 74), some (.int (nI i)), o5, none, none], [], mjH I3 X3)) (fun _ => rfl) ?_
  refine mjGoL.brT (rfl) ?_
  show mjGoL _ _ 1524 _ _
  exact g _ _ _ hR3 hg3
theorem law_23 {L : Nat} {xs : Nat → Int32} {e1 e2 e3 : MOp} (hL : L ≤ 3072) (hm : ∀ pc, mjMn (pL L xs e1 e2 e3 pc)) (hT : lTos e3) (hE : lElm e1 e2) (d : Nat) {i : Nat} {I : Nat → Nat → Int32} {X : MX} {o5 : Option Value} {r : MO × MH → Prop} (hi : i + 6 ≤ L) (hR : RI I X) (hN : X.2.2.2.1 ≤ 800000) (g : ∀ I3 X3 o5, RI I3 X3 → grw X X3 → mjGoL (pL L xs e1 e2 e3) (d + 13) 1524 ([some (.ref 2000000), some (.ref 0), some (.ref 43), some (.ref 74), some (.int (nI i)), o5, none, none], [], mjH I3 X3) r) : mjGoL (pL L xs e1 e2 e3) (d + 13) 975 ([some (.ref 2000000), some (.ref 0), some (.ref 43), some (.ref 74), some (.int (nI i)), o5, none, none], [], mjH I X) r := by
  refine mjGoL.run 5 (pc' := 981) (F' := ([some (.ref 2000000), some (.ref 0), some (.ref 43), some (.ref 74), some (.int (nI i)), o5, none, none], [.int ((nI i) + 1), .ref 2000000, .ref 0], mjH I X)) (fun _ => rfl) ?_
  refine mjGoL.op (pc' := 982) (F' := ([some (.ref 2000000), some (.ref 0), some (.ref 43), some (.ref 74), some (.int (nI i)), o5, none, none], [.int (xs (i + 1)), .ref 0], mjH I X)) (o := mjsldK L xs 982) rfl (fun _ => sldK_op (m := i + 1) (nI_add i 1) (by omega) hL) ?_
  refine mjGoL.run 4 (pc' := 987) (F' := ([some (.ref 2000000), some (.ref 0), some (.ref 43), some (.ref 74), some (.int (nI i)), o5, none, none], [.int ((nI i) + 2), .ref 2000000, .int (xs (i + 1)), .ref 0], mjH I X)) (fun _ => rfl) ?_
  refine mjGoL.op (pc' := 988) (F' := ([some (.ref 2000000), some (.ref 0), some (.ref 43), some (.ref 74), some (.int (nI i)), o5, none, none], [.int (xs (i + 2)), .int (xs (i + 1)), .ref 0], mjH I X)) (o := mjsldK L xs 988) rfl (fun _ => sldK_op (m := i + 2) (nI_add i 2) (by omega) hL) ?_
  obtain ⟨v, I2, X2, ev1, I3, X3, ev2, hR3, hg3⟩ := k_byLaw d (xs (i + 1)) (xs (i + 2)) I X hR hN
  refine mjGoL.call hm (n := 3) (j := 115) (nx := 991) (o := some (.int v)) (h' := mjH I2 X2) (fun _ => rfl) (ev1) ?_
  show mjGoL _ _ 991 ([some (.ref 2000000), some (.ref 0), some (.ref 43), some (.ref 74), some (.int (nI i)), o5, none, none], [.int v], mjH I2 X2) _
  refine mjGoL.run 5 (pc' := 997) (F' := ([some (.ref 2000000), some (.ref 0), some (.ref 43), some (.ref 74), some (.int (nI i)), o5, none, none], [.int ((nI i) + 1), .ref 2000000, .ref 43, .int v], mjH I2 X2)) (fun _ => rfl) ?_
  refine mjGoL.op (pc' := 998) (F' := ([some (.ref 2000000), some (.ref 0), some (.ref 43), some (.ref 74), some (.int (nI i)), o5, none, none], [.int (xs (i + 1)), .ref 43, .int v], mjH I2 X2)) (o := mjsldK L xs 998) rfl (fun _ => sldK_op (m := i + 1) (nI_add i 1) (by omega) hL) ?_
  refine mjGoL.run 4 (pc' := 1003) (F' := ([some (.ref 2000000), some (.ref 0), some (.ref 43), some (.ref 74), some (.int (nI i)), o5, none, none], [.int ((nI i) + 2), .ref 2000000, .int (xs (i + 1)), .ref 43, .int v], mjH I2 X2)) (fun _ => rfl) ?_
  refine mjGoL.op (pc' := 1004) (F' := ([some (.ref 2000000), some (.ref 0), some (.ref 43), some (.ref 74), some (.int (nI i)), o5, none, none], [.int (xs (i + 2)), .int (xs (i + 1)), .ref 43, .int v], mjH I2 X2)) (o := mjsldK L xs 1004) rfl (fun _ => sldK_op (m := i + 2) (nI_add i 2) (by omega) hL) ?_
  refine mjGoL.call hm (n := 3) (j := 173) (nx := 1007) (o := some (.int v)) (h' := mjH I3 X3) (fun _ => rfl) (ev2) ?_
  show mjGoL _ _ 1007 ([some (.ref 2000000), some (.ref 0), some (.ref 43), some (.ref 74), some (.int (nI i)), o5, none, none], [.int v, .int v], mjH I3 X3) _
  refine mjGoL.run 1 (pc' := (bif decide (v = v) then 1524 else 1010)) (F' := ([some (.ref 2000000), some (.ref 0), some (.ref 43), some (.ref 74), some (.int (nI i)), o5, none, none], [], mjH I3 X3)) (fun _ => rfl) ?_
  refine mjGoL.brT (rfl) ?_
  show mjGoL _ _ 1524 _ _
  exact g _ _ _ hR3 hg3
theorem law_24 {L : Nat} {xs : Nat → Int32} {e1 e2 e3 : MOp} (hL : L ≤ 3072) (hm : ∀ pc, mjMn (pL L xs e1 e2 e3 pc)) (hT : lTos e3) (hE : lElm e1 e2) (d : Nat) {i : Nat} {I : Nat → Nat → Int32} {X : MX} {o5 : Option Value} {r : MO × MH → Prop} (hi : i + 6 ≤ L) (hR : RI I X) (hN : X.2.2.2.1 ≤ 800000) (g : ∀ I3 X3 o5, RI I3 X3 → grw X X3 → mjGoL (pL L xs e1 e2 e3) (d + 13) 1524 ([some (.ref 2000000), some (.ref 0), some (.ref 43), some (.ref 74), some (.int (nI i)), o5, none, none], [], mjH I3 X3) r) : mjGoL (pL L xs e1 e2 e3) (d + 13) 1012 ([some (.ref 2000000), some (.ref 0), some (.ref 43), some (.ref 74), some (.int (nI i)), o5, none, none], [], mjH I X) r := by
  refine mjGoL.run 1 (pc' := 1013) (F' := ([some (.ref 2000000), some (.ref 0), some (.ref 43), some (.ref 74), some (.int (nI i)), o5, none, none], [.ref 0], mjH I X)) (fun _ => rfl) ?_
  obtain ⟨v, I2, X2, ev1, I3, X3, ev2, hR3, hg3⟩ := k_sum d I X hR hN
  refine mjGoL.call hm (n := 1) (j := 117) (nx := 1016) (o := some (.int v)) (h' := mjH I2 X2) (fun _ => rfl) (ev1) ?_
  show mjGoL _ _ 1016 ([some (.ref 2000000), some (.ref 0), some (.ref 43), some (.ref 74), some (.int (nI i)), o5, none, none], [.int v], mjH I2 X2) _
  refine mjGoL.run 1 (pc' := 1017) (F' := ([some (.ref 2000000), some (.ref 0), some (.ref 43), some (.ref 74), some (.int (nI i)), o5, none, none], [.ref 43, .int v], mjH I2 X2)) (fun _ => rfl) ?_
  refine mjGoL.call hm (n := 1) (j := 174) (nx := 1020) (o := some (.int v)) (h' := mjH I3 X3) (fun _ => rfl) (ev2) ?_
  show mjGoL _ _ 1020 ([some (.ref 2000000), some (.ref 0), some (.ref 43), some (.ref 74), some (.int (nI i)), o5, none, none], [.int v, .int v], mjH I3 X3) _
  refine mjGoL.run 1 (pc' := (bif decide (v = v) then 1524 else 1023)) (F' := ([some (.ref 2000000), some (.ref 0), some (.ref 43), some (.ref 74), some (.int (nI i)), o5, none, none], [], mjH I3 X3)) (fun _ => rfl) ?_
  refine mjGoL.brT (rfl) ?_
  show mjGoL _ _ 1524 _ _
  exact g _ _ _ hR3 hg3
theorem law_25 {L : Nat} {xs : Nat → Int32} {e1 e2 e3 : MOp} (hL : L ≤ 3072) (hm : ∀ pc, mjMn (pL L xs e1 e2 e3 pc)) (hT : lTos e3) (hE : lElm e1 e2) (d : Nat) {i : Nat} {I : Nat → Nat → Int32} {X : MX} {o5 : Option Value} {r : MO × MH → Prop} (hi : i + 6 ≤ L) (hR : RI I X) (hN : X.2.2.2.1 ≤ 800000) (g : ∀ I3 X3 o5, RI I3 X3 → grw X X3 → mjGoL (pL L xs e1 e2 e3) (d + 13) 1524 ([some (.ref 2000000), some (.ref 0), some (.ref 43), some (.ref 74), some (.int (nI i)), o5, none, none], [], mjH I3 X3) r) : mjGoL (pL L xs e1 e2 e3) (d + 13) 1025 ([some (.ref 2000000), some (.ref 0), some (.ref 43), some (.ref 74), some (.int (nI i)), o5, none, none], [], mjH I X) r := by
  refine mjGoL.run 1 (pc' := 1026) (F' := ([some (.ref 2000000), some (.ref 0), some (.ref 43), some (.ref 74), some (.int (nI i)), o5, none, none], [.ref 0], mjH I X)) (fun _ => rfl) ?_
  obtain ⟨v, I2, X2, ev1, I3, X3, ev2, hR3, hg3⟩ := k_order d I X hR hN
  refine mjGoL.call hm (n := 1) (j := 119) (nx := 1029) (o := some (.int v)) (h' := mjH I2 X2) (fun _ => rfl) (ev1) ?_
  show mjGoL _ _ 1029 ([some (.ref 2000000), some (.ref 0), some (.ref 43), some (.ref 74), some (.int (nI i)), o5, none, none], [.int v], mjH I2 X2) _
  refine mjGoL.run 1 (pc' := 1030) (F' := ([some (.ref 2000000), some (.ref 0), some (.ref 43), some (.ref 74), some (.int (nI i)), o5, none, none], [.ref 43, .int v], mjH I2 X2)) (fun _ => rfl) ?_
  refine mjGoL.call hm (n := 1) (j := 175) (nx := 1033) (o := some (.int v)) (h' := mjH I3 X3) (fun _ => rfl) (ev2) ?_
  show mjGoL _ _ 1033 ([some (.ref 2000000), some (.ref 0), some (.ref 43), some (.ref 74), some (.int (nI i)), o5, none, none], [.int v, .int v], mjH I3 X3) _
  refine mjGoL.run 1 (pc' := (bif decide (v = v) then 1524 else 1036)) (F' := ([some (.ref 2000000), some (.ref 0), some (.ref 43), some (.ref 74), some (.int (nI i)), o5, none, none], [], mjH I3 X3)) (fun _ => rfl) ?_
  refine mjGoL.brT (rfl) ?_
  show mjGoL _ _ 1524 _ _
  exact g _ _ _ hR3 hg3
theorem law_26 {L : Nat} {xs : Nat → Int32} {e1 e2 e3 : MOp} (hL : L ≤ 3072) (hm : ∀ pc, mjMn (pL L xs e1 e2 e3 pc)) (hT : lTos e3) (hE : lElm e1 e2) (d : Nat) {i : Nat} {I : Nat → Nat → Int32} {X : MX} {o5 : Option Value} {r : MO × MH → Prop} (hi : i + 6 ≤ L) (hR : RI I X) (hN : X.2.2.2.1 ≤ 800000) (g : ∀ I3 X3 o5, RI I3 X3 → grw X X3 → mjGoL (pL L xs e1 e2 e3) (d + 13) 1524 ([some (.ref 2000000), some (.ref 0), some (.ref 43), some (.ref 74), some (.int (nI i)), o5, none, none], [], mjH I3 X3) r) : mjGoL (pL L xs e1 e2 e3) (d + 13) 1038 ([some (.ref 2000000), some (.ref 0), some (.ref 43), some (.ref 74), some (.int (nI i)), o5, none, none], [], mjH I X) r := by
  refine mjGoL.run 5 (pc' := 1044) (F' := ([some (.ref 2000000), some (.ref 0), some (.ref 43), some (.ref 74), some (.int (nI i)), o5, none, none], [.int ((nI i) + 1), .ref 2000000, .ref 0], mjH I X)) (fun _ => rfl) ?_
  refine mjGoL.op (pc' := 1045) (F' := ([some (.ref 2000000), some (.ref 0), some (.ref 43), some (.ref 74), some (.int (nI i)), o5, none, none], [.int (xs (i + 1)), .ref 0], mjH I X)) (o := mjsldK L xs 1045) rfl (fun _ => sldK_op (m := i + 1) (nI_add i 1) (by omega) hL) ?_
  refine mjGoL.run 4 (pc' := 1050) (F' := ([some (.ref 2000000), some (.ref 0), some (.ref 43), some (.ref 74), some (.int (nI i)), o5, none, none], [.int ((nI i) + 2), .ref 2000000, .int (xs (i + 1)), .ref 0], mjH I X)) (fun _ => rfl) ?_
  refine mjGoL.op (pc' := 1051) (F' := ([some (.ref 2000000), some (.ref 0), some (.ref 43), some (.ref 74), some (.int (nI i)), o5, none, none], [.int (xs (i + 2)), .int (xs (i + 1)), .ref 0], mjH I X)) (o := mjsldK L xs 1051) rfl (fun _ => sldK_op (m := i + 2) (nI_add i 2) (by omega) hL) ?_
  refine mjGoL.run 4 (pc' := 1056) (F' := ([some (.ref 2000000), some (.ref 0), some (.ref 43), some (.ref 74), some (.int (nI i)), o5, none, none], [.int ((nI i) + 3), .ref 2000000, .int (xs (i + 2)), .int (xs (i + 1)), .ref 0], mjH I X)) (fun _ => rfl) ?_
  refine mjGoL.op (pc' := 1057) (F' := ([some (.ref 2000000), some (.ref 0), some (.ref 43), some (.ref 74), some (.int (nI i)), o5, none, none], [.int (xs (i + 3)), .int (xs (i + 2)), .int (xs (i + 1)), .ref 0], mjH I X)) (o := mjsldK L xs 1057) rfl (fun _ => sldK_op (m := i + 3) (nI_add i 3) (by omega) hL) ?_
  refine mjGoL.run 4 (pc' := 1062) (F' := ([some (.ref 2000000), some (.ref 0), some (.ref 43), some (.ref 74), some (.int (nI i)), o5, none, none], [.int ((nI i) + 4), .ref 2000000, .int (xs (i + 3)), .int (xs (i + 2)), .int (xs (i + 1)), .ref 0], mjH I X)) (fun _ => rfl) ?_
  refine mjGoL.op (pc' := 1063) (F' := ([some (.ref 2000000), some (.ref 0), some (.ref 43), some (.ref 74), some (.int (nI i)), o5, none, none], [.int (xs (i + 4)), .int (xs (i + 3)), .int (xs (i + 2)), .int (xs (i + 1)), .ref 0], mjH I X)) (o := mjsldK L xs 1063) rfl (fun _ => sldK_op (m := i + 4) (nI_add i 4) (by omega) hL) ?_
  obtain ⟨v, I2, X2, ev1, I3, X3, ev2, hR3, hg3⟩ := k_seeded d (xs (i + 1)) (xs (i + 2)) (xs (i + 3)) (xs (i + 4)) I X hR hN
  refine mjGoL.call hm (n := 5) (j := 120) (nx := 1066) (o := some (.int v)) (h' := mjH I2 X2) (fun _ => rfl) (ev1) ?_
  show mjGoL _ _ 1066 ([some (.ref 2000000), some (.ref 0), some (.ref 43), some (.ref 74), some (.int (nI i)), o5, none, none], [.int v], mjH I2 X2) _
  refine mjGoL.run 5 (pc' := 1072) (F' := ([some (.ref 2000000), some (.ref 0), some (.ref 43), some (.ref 74), some (.int (nI i)), o5, none, none], [.int ((nI i) + 1), .ref 2000000, .ref 43, .int v], mjH I2 X2)) (fun _ => rfl) ?_
  refine mjGoL.op (pc' := 1073) (F' := ([some (.ref 2000000), some (.ref 0), some (.ref 43), some (.ref 74), some (.int (nI i)), o5, none, none], [.int (xs (i + 1)), .ref 43, .int v], mjH I2 X2)) (o := mjsldK L xs 1073) rfl (fun _ => sldK_op (m := i + 1) (nI_add i 1) (by omega) hL) ?_
  refine mjGoL.run 4 (pc' := 1078) (F' := ([some (.ref 2000000), some (.ref 0), some (.ref 43), some (.ref 74), some (.int (nI i)), o5, none, none], [.int ((nI i) + 2), .ref 2000000, .int (xs (i + 1)), .ref 43, .int v], mjH I2 X2)) (fun _ => rfl) ?_
  refine mjGoL.op (pc' := 1079) (F' := ([some (.ref 2000000), some (.ref 0), some (.ref 43), some (.ref 74), some (.int (nI i)), o5, none, none], [.int (xs (i + 2)), .int (xs (i + 1)), .ref 43, .int v], mjH I2 X2)) (o := mjsldK L xs 1079) rfl (fun _ => sldK_op (m := i + 2) (nI_add i 2) (by omega) hL) ?_
  refine mjGoL.run 4 (pc' := 1084) (F' := ([some (.ref 2000000), some (.ref 0), some (.ref 43), some (.ref 74), some (.int (nI i)), o5, none, none], [.int ((nI i) + 3), .ref 2000000, .int (xs (i + 2)), .int (xs (i + 1)), .ref 43, .int v], mjH I2 X2)) (fun _ => rfl) ?_
  refine mjGoL.op (pc' := 1085) (F' := ([some (.ref 2000000), some (.ref 0), some (.ref 43), some (.ref 74), some (.int (nI i)), o5, none, none], [.int (xs (i + 3)), .int (xs (i + 2)), .int (xs (i + 1)), .ref 43, .int v], mjH I2 X2)) (o := mjsldK L xs 1085) rfl (fun _ => sldK_op (m := i + 3) (nI_add i 3) (by omega) hL) ?_
  refine mjGoL.run 4 (pc' := 1090) (F' := ([some (.ref 2000000), some (.ref 0), some (.ref 43), some (.ref 74), some (.int (nI i)), o5, none, none], [.int ((nI i) + 4), .ref 2000000, .int (xs (i + 3)), .int (xs (i + 2)), .int (xs (i + 1)), .ref 43, .int v], mjH I2 X2)) (fun _ => rfl) ?_
  refine mjGoL.op (pc' := 1091) (F' := ([some (.ref 2000000), some (.ref 0), some (.ref 43), some (.ref 74), some (.int (nI i)), o5, none, none], [.int (xs (i + 4)), .int (xs (i + 3)), .int (xs (i + 2)), .int (xs (i + 1)), .ref 43, .int v], mjH I2 X2)) (o := mjsldK L xs 1091) rfl (fun _ => sldK_op (m := i + 4) (nI_add i 4) (by omega) hL) ?_
  refine mjGoL.call hm (n := 5) (j := 176) (nx := 1094) (o := some (.int v)) (h' := mjH I3 X3) (fun _ => rfl) (ev2) ?_
  show mjGoL _ _ 1094 ([some (.ref 2000000), some (.ref 0), some (.ref 43), some (.ref 74), some (.int (nI i)), o5, none, none], [.int v, .int v], mjH I3 X3) _
  refine mjGoL.run 1 (pc' := (bif decide (v = v) then 1524 else 1097)) (F' := ([some (.ref 2000000), some (.ref 0), some (.ref 43), some (.ref 74), some (.int (nI i)), o5, none, none], [], mjH I3 X3)) (fun _ => rfl) ?_
  refine mjGoL.brT (rfl) ?_
  show mjGoL _ _ 1524 _ _
  exact g _ _ _ hR3 hg3
theorem law_27 {L : Nat} {xs : Nat → Int32} {e1 e2 e3 : MOp} (hL : L ≤ 3072) (hm : ∀ pc, mjMn (pL L xs e1 e2 e3 pc)) (hT : lTos e3) (hE : lElm e1 e2) (d : Nat) {i : Nat} {I : Nat → Nat → Int32} {X : MX} {o5 : Option Value} {r : MO × MH → Prop} (hi : i + 6 ≤ L) (hR : RI I X) (hN : X.2.2.2.1 ≤ 800000) (g : ∀ I3 X3 o5, RI I3 X3 → grw X X3 → mjGoL (pL L xs e1 e2 e3) (d + 13) 1524 ([some (.ref 2000000), some (.ref 0), some (.ref 43), some (.ref 74), some (.int (nI i)), o5, none, none], [], mjH I3 X3) r) : mjGoL (pL L xs e1 e2 e3) (d + 13) 1099 ([some (.ref 2000000), some (.ref 0), some (.ref 43), some (.ref 74), some (.int (nI i)), o5, none, none], [], mjH I X) r := by
  refine mjGoL.run 5 (pc' := 1105) (F' := ([some (.ref 2000000), some (.ref 0), some (.ref 43), some (.ref 74), some (.int (nI i)), o5, none, none], [.int ((nI i) + 1), .ref 2000000, .ref 0], mjH I X)) (fun _ => rfl) ?_
  refine mjGoL.op (pc' := 1106) (F' := ([some (.ref 2000000), some (.ref 0), some (.ref 43), some (.ref 74), some (.int (nI i)), o5, none, none], [.int (xs (i + 1)), .ref 0], mjH I X)) (o := mjsldK L xs 1106) rfl (fun _ => sldK_op (m := i + 1) (nI_add i 1) (by omega) hL) ?_
  refine mjGoL.run 4 (pc' := 1111) (F' := ([some (.ref 2000000), some (.ref 0), some (.ref 43), some (.ref 74), some (.int (nI i)), o5, none, none], [.int ((nI i) + 2), .ref 2000000, .int (xs (i + 1)), .ref 0], mjH I X)) (fun _ => rfl) ?_
  refine mjGoL.op (pc' := 1112) (F' := ([some (.ref 2000000), some (.ref 0), some (.ref 43), some (.ref 74), some (.int (nI i)), o5, none, none], [.int (xs (i + 2)), .int (xs (i + 1)), .ref 0], mjH I X)) (o := mjsldK L xs 1112) rfl (fun _ => sldK_op (m := i + 2) (nI_add i 2) (by omega) hL) ?_
  obtain ⟨v, I2, X2, ev1, I3, X3, ev2, hR3, hg3⟩ := k_judge d (xs (i + 1)) (xs (i + 2)) I X hR hN
  refine mjGoL.call hm (n := 3) (j := 121) (nx := 1115) (o := some (.int v)) (h' := mjH I2 X2) (fun _ => rfl) (ev1) ?_
  show mjGoL _ _ 1115 ([some (.ref 2000000), some (.ref 0), some (.ref 43), some (.ref 74), some (.int (nI i)), o5, none, none], [.int v], mjH I2 X2) _
  refine mjGoL.run 5 (pc' := 1121) (F' := ([some (.ref 2000000), some (.ref 0), some (.ref 43), some (.ref 74), some (.int (nI i)), o5, none, none], [.int ((nI i) + 1), .ref 2000000, .ref 43, .int v], mjH I2 X2)) (fun _ => rfl) ?_
  refine mjGoL.op (pc' := 1122) (F' := ([some (.ref 2000000), some (.ref 0), some (.ref 43), some (.ref 74), some (.int (nI i)), o5, none, none], [.int (xs (i + 1)), .ref 43, .int v], mjH I2 X2)) (o := mjsldK L xs 1122) rfl (fun _ => sldK_op (m := i + 1) (nI_add i 1) (by omega) hL) ?_
  refine mjGoL.run 4 (pc' := 1127) (F' := ([some (.ref 2000000), some (.ref 0), some (.ref 43), some (.ref 74), some (.int (nI i)), o5, none, none], [.int ((nI i) + 2), .ref 2000000, .int (xs (i + 1)), .ref 43, .int v], mjH I2 X2)) (fun _ => rfl) ?_
  refine mjGoL.op (pc' := 1128) (F' := ([some (.ref 2000000), some (.ref 0), some (.ref 43), some (.ref 74), some (.int (nI i)), o5, none, none], [.int (xs (i + 2)), .int (xs (i + 1)), .ref 43, .int v], mjH I2 X2)) (o := mjsldK L xs 1128) rfl (fun _ => sldK_op (m := i + 2) (nI_add i 2) (by omega) hL) ?_
  refine mjGoL.call hm (n := 3) (j := 177) (nx := 1131) (o := some (.int v)) (h' := mjH I3 X3) (fun _ => rfl) (ev2) ?_
  show mjGoL _ _ 1131 ([some (.ref 2000000), some (.ref 0), some (.ref 43), some (.ref 74), some (.int (nI i)), o5, none, none], [.int v, .int v], mjH I3 X3) _
  refine mjGoL.run 1 (pc' := (bif decide (v = v) then 1524 else 1134)) (F' := ([some (.ref 2000000), some (.ref 0), some (.ref 43), some (.ref 74), some (.int (nI i)), o5, none, none], [], mjH I3 X3)) (fun _ => rfl) ?_
  refine mjGoL.brT (rfl) ?_
  show mjGoL _ _ 1524 _ _
  exact g _ _ _ hR3 hg3
theorem law_28 {L : Nat} {xs : Nat → Int32} {e1 e2 e3 : MOp} (hL : L ≤ 3072) (hm : ∀ pc, mjMn (pL L xs e1 e2 e3 pc)) (hT : lTos e3) (hE : lElm e1 e2) (d : Nat) {i : Nat} {I : Nat → Nat → Int32} {X : MX} {o5 : Option Value} {r : MO × MH → Prop} (hi : i + 6 ≤ L) (hR : RI I X) (hN : X.2.2.2.1 ≤ 800000) (g : ∀ I3 X3 o5, RI I3 X3 → grw X X3 → mjGoL (pL L xs e1 e2 e3) (d + 13) 1524 ([some (.ref 2000000), some (.ref 0), some (.ref 43), some (.ref 74), some (.int (nI i)), o5, none, none], [], mjH I3 X3) r) : mjGoL (pL L xs e1 e2 e3) (d + 13) 1136 ([some (.ref 2000000), some (.ref 0), some (.ref 43), some (.ref 74), some (.int (nI i)), o5, none, none], [], mjH I X) r := by
  refine mjGoL.run 1 (pc' := 1137) (F' := ([some (.ref 2000000), some (.ref 0), some (.ref 43), some (.ref 74), some (.int (nI i)), o5, none, none], [.ref 0], mjH I X)) (fun _ => rfl) ?_
  obtain ⟨v, I2, X2, ev1, I3, X3, ev2, hR3, hg3⟩ := k_image d I X hR hN
  refine mjGoL.call hm (n := 1) (j := 122) (nx := 1140) (o := some (.int v)) (h' := mjH I2 X2) (fun _ => rfl) (ev1) ?_
  show mjGoL _ _ 1140 ([some (.ref 2000000), some (.ref 0), some (.ref 43), some (.ref 74), some (.int (nI i)), o5, none, none], [.int v], mjH I2 X2) _
  refine mjGoL.run 1 (pc' := 1141) (F' := ([some (.ref 2000000), some (.ref 0), some (.ref 43), some (.ref 74), some (.int (nI i)), o5, none, none], [.ref 43, .int v], mjH I2 X2)) (fun _ => rfl) ?_
  refine mjGoL.call hm (n := 1) (j := 135) (nx := 1144) (o := some (.int v)) (h' := mjH I3 X3) (fun _ => rfl) (ev2) ?_
  show mjGoL _ _ 1144 ([some (.ref 2000000), some (.ref 0), some (.ref 43), some (.ref 74), some (.int (nI i)), o5, none, none], [.int v, .int v], mjH I3 X3) _
  refine mjGoL.run 1 (pc' := (bif decide (v = v) then 1524 else 1147)) (F' := ([some (.ref 2000000), some (.ref 0), some (.ref 43), some (.ref 74), some (.int (nI i)), o5, none, none], [], mjH I3 X3)) (fun _ => rfl) ?_
  refine mjGoL.brT (rfl) ?_
  show mjGoL _ _ 1524 _ _
  exact g _ _ _ hR3 hg3
theorem law_29 {L : Nat} {xs : Nat → Int32} {e1 e2 e3 : MOp} (hL : L ≤ 3072) (hm : ∀ pc, mjMn (pL L xs e1 e2 e3 pc)) (hT : lTos e3) (hE : lElm e1 e2) (d : Nat) {i : Nat} {I : Nat → Nat → Int32} {X : MX} {o5 : Option Value} {r : MO × MH → Prop} (hi : i + 6 ≤ L) (hR : RI I X) (hN : X.2.2.2.1 ≤ 800000) (g : ∀ I3 X3 o5, RI I3 X3 → grw X X3 → mjGoL (pL L xs e1 e2 e3) (d + 13) 1524 ([some (.ref 2000000), some (.ref 0), some (.ref 43), some (.ref 74), some (.int (nI i)), o5, none, none], [], mjH I3 X3) r) : mjGoL (pL L xs e1 e2 e3) (d + 13) 1149 ([some (.ref 2000000), some (.ref 0), some (.ref 43), some (.ref 74), some (.int (nI i)), o5, none, none], [], mjH I X) r := by
  refine mjGoL.run 1 (pc' := 1150) (F' := ([some (.ref 2000000), some (.ref 0), some (.ref 43), some (.ref 74), some (.int (nI i)), o5, none, none], [.ref 0], mjH I X)) (fun _ => rfl) ?_
  obtain ⟨v, I2, X2, ev1, I3, X3, ev2, hR3, hg3⟩ := k_restore d I X hR hN
  refine mjGoL.call hm (n := 1) (j := 123) (nx := 1153) (o := some (.int v)) (h' := mjH I2 X2) (fun _ => rfl) (ev1) ?_
  show mjGoL _ _ 1153 ([some (.ref 2000000), some (.ref 0), some (.ref 43), some (.ref 74), some (.int (nI i)), o5, none, none], [.int v], mjH I2 X2) _
  refine mjGoL.run 1 (pc' := 1154) (F' := ([some (.ref 2000000), some (.ref 0), some (.ref 43), some (.ref 74), some (.int (nI i)), o5, none, none], [.ref 43, .int v], mjH I2 X2)) (fun _ => rfl) ?_
  refine mjGoL.call hm (n := 1) (j := 136) (nx := 1157) (o := some (.int v)) (h' := mjH I3 X3) (fun _ => rfl) (ev2) ?_
  show mjGoL _ _ 1157 ([some (.ref 2000000), some (.ref 0), some (.ref 43), some (.ref 74), some (.int (nI i)), o5, none, none], [.int v, .int v], mjH I3 X3) _
  refine mjGoL.run 1 (pc' := (bif decide (v = v) then 1524 else 1160)) (F' := ([some (.ref 2000000), some (.ref 0), some (.ref 43), some (.ref 74), some (.int (nI i)), o5, none, none], [], mjH I3 X3)) (fun _ => rfl) ?_
  refine mjGoL.brT (rfl) ?_
  show mjGoL _ _ 1524 _ _
  exact g _ _ _ hR3 hg3
theorem law_30 {L : Nat} {xs : Nat → Int32} {e1 e2 e3 : MOp} (hL : L ≤ 3072) (hm : ∀ pc, mjMn (pL L xs e1 e2 e3 pc)) (hT : lTos e3) (hE : lElm e1 e2) (d : Nat) {i : Nat} {I : Nat → Nat → Int32} {X : MX} {o5 : Option Value} {r : MO × MH → Prop} (hi : i + 6 ≤ L) (hR : RI I X) (hN : X.2.2.2.1 ≤ 800000) (g : ∀ I3 X3 o5, RI I3 X3 → grw X X3 → mjGoL (pL L xs e1 e2 e3) (d + 13) 1524 ([some (.ref 2000000), some (.ref 0), some (.ref 43), some (.ref 74), some (.int (nI i)), o5, none, none], [], mjH I3 X3) r) : mjGoL (pL L xs e1 e2 e3) (d + 13) 1162 ([some (.ref 2000000), some (.ref 0), some (.ref 43), some (.ref 74), some (.int (nI i)), o5, none, none], [], mjH I X) r := by
  refine mjGoL.run 5 (pc' := 1168) (F' := ([some (.ref 2000000), some (.ref 0), some (.ref 43), some (.ref 74), some (.int (nI i)), o5, none, none], [.int ((nI i) + 1), .ref 2000000, .ref 0], mjH I X)) (fun _ => rfl) ?_
  refine mjGoL.op (pc' := 1169) (F' := ([some (.ref 2000000), some (.ref 0), some (.ref 43), some (.ref 74), some (.int (nI i)), o5, none, none], [.int (xs (i + 1)), .ref 0], mjH I X)) (o := mjsldK L xs 1169) rfl (fun _ => sldK_op (m := i + 1) (nI_add i 1) (by omega) hL) ?_
  obtain ⟨v, I2, X2, ev1, I3, X3, ev2, hR3, hg3⟩ := k_count d (xs (i + 1)) I X hR hN
  refine mjGoL.call hm (n := 2) (j := 124) (nx := 1172) (o := some (.int v)) (h' := mjH I2 X2) (fun _ => rfl) (ev1) ?_
  show mjGoL _ _ 1172 ([some (.ref 2000000), some (.ref 0), some (.ref 43), some (.ref 74), some (.int (nI i)), o5, none, none], [.int v], mjH I2 X2) _
  refine mjGoL.run 5 (pc' := 1178) (F' := ([some (.ref 2000000), some (.ref 0), some (.ref 43), some (.ref 74), some (.int (nI i)), o5, none, none], [.int ((nI i) + 1), .ref 2000000, .ref 43, .int v], mjH I2 X2)) (fun _ => rfl) ?_
  refine mjGoL.op (pc' := 1179) (F' := ([some (.ref 2000000), some (.ref 0), some (.ref 43), some (.ref 74), some (.int (nI i)), o5, none, none], [.int (xs (i + 1)), .ref 43, .int v], mjH I2 X2)) (o := mjsldK L xs 1179) rfl (fun _ => sldK_op (m := i + 1) (nI_add i 1) (by omega) hL) ?_
  refine mjGoL.call hm (n := 2) (j := 178) (nx := 1182) (o := some (.int v)) (h' := mjH I3 X3) (fun _ => rfl) (ev2) ?_
  show mjGoL _ _ 1182 ([some (.ref 2000000), some (.ref 0), some (.ref 43), some (.ref 74), some (.int (nI i)), o5, none, none], [.int v, .int v], mjH I3 X3) _
  refine mjGoL.run 1 (pc' := (bif decide (v = v) then 1524 else 1185)) (F' := ([some (.ref 2000000), some (.ref 0), some (.ref 43), some (.ref 74), some (.int (nI i)), o5, none, none], [], mjH I3 X3)) (fun _ => rfl) ?_
  refine mjGoL.brT (rfl) ?_
  show mjGoL _ _ 1524 _ _
  exact g _ _ _ hR3 hg3
theorem law_31 {L : Nat} {xs : Nat → Int32} {e1 e2 e3 : MOp} (hL : L ≤ 3072) (hm : ∀ pc, mjMn (pL L xs e1 e2 e3 pc)) (hT : lTos e3) (hE : lElm e1 e2) (d : Nat) {i : Nat} {I : Nat → Nat → Int32} {X : MX} {o5 : Option Value} {r : MO × MH → Prop} (hi : i + 6 ≤ L) (hR : RI I X) (hN : X.2.2.2.1 ≤ 800000) (g : ∀ I3 X3 o5, RI I3 X3 → grw X X3 → mjGoL (pL L xs e1 e2 e3) (d + 13) 1524 ([some (.ref 2000000), some (.ref 0), some (.ref 43), some (.ref 74), some (.int (nI i)), o5, none, none], [], mjH I3 X3) r) : mjGoL (pL L xs e1 e2 e3) (d + 13) 1187 ([some (.ref 2000000), some (.ref 0), some (.ref 43), some (.ref 74), some (.int (nI i)), o5, none, none], [], mjH I X) r := by
  refine mjGoL.run 5 (pc' := 1193) (F' := ([some (.ref 2000000), some (.ref 0), some (.ref 43), some (.ref 74), some (.int (nI i)), o5, none, none], [.int ((nI i) + 1), .ref 2000000, .ref 0], mjH I X)) (fun _ => rfl) ?_
  refine mjGoL.op (pc' := 1194) (F' := ([some (.ref 2000000), some (.ref 0), some (.ref 43), some (.ref 74), some (.int (nI i)), o5, none, none], [.int (xs (i + 1)), .ref 0], mjH I X)) (o := mjsldK L xs 1194) rfl (fun _ => sldK_op (m := i + 1) (nI_add i 1) (by omega) hL) ?_
  refine mjGoL.run 4 (pc' := 1199) (F' := ([some (.ref 2000000), some (.ref 0), some (.ref 43), some (.ref 74), some (.int (nI i)), o5, none, none], [.int ((nI i) + 2), .ref 2000000, .int (xs (i + 1)), .ref 0], mjH I X)) (fun _ => rfl) ?_
  refine mjGoL.op (pc' := 1200) (F' := ([some (.ref 2000000), some (.ref 0), some (.ref 43), some (.ref 74), some (.int (nI i)), o5, none, none], [.int (xs (i + 2)), .int (xs (i + 1)), .ref 0], mjH I X)) (o := mjsldK L xs 1200) rfl (fun _ => sldK_op (m := i + 2) (nI_add i 2) (by omega) hL) ?_
  refine mjGoL.run 4 (pc' := 1205) (F' := ([some (.ref 2000000), some (.ref 0), some (.ref 43), some (.ref 74), some (.int (nI i)), o5, none, none], [.int ((nI i) + 3), .ref 2000000, .int (xs (i + 2)), .int (xs (i + 1)), .ref 0], mjH I X)) (fun _ => rfl) ?_
  refine mjGoL.op (pc' := 1206) (F' := ([some (.ref 2000000), some (.ref 0), some (.ref 43), some (.ref 74), some (.int (nI i)), o5, none, none], [.int (xs (i + 3)), .int (xs (i + 2)), .int (xs (i + 1)), .ref 0], mjH I X)) (o := mjsldK L xs 1206) rfl (fun _ => sldK_op (m := i + 3) (nI_add i 3) (by omega) hL) ?_
  obtain ⟨v, I2, X2, ev1, I3, X3, ev2, hR3, hg3⟩ := k_keep d (xs (i + 1)) (xs (i + 2)) (xs (i + 3)) I X hR hN
  refine mjGoL.call hm (n := 4) (j := 125) (nx := 1209) (o := some (.int v)) (h' := mjH I2 X2) (fun _ => rfl) (ev1) ?_
  show mjGoL _ _ 1209 ([some (.ref 2000000), some (.ref 0), some (.ref 43), some (.ref 74), some (.int (nI i)), o5, none, none], [.int v], mjH I2 X2) _
  refine mjGoL.run 5 (pc' := 1215) (F' := ([some (.ref 2000000), some (.ref 0), some (.ref 43), some (.ref 74), some (.int (nI i)), o5, none, none], [.int ((nI i) + 1), .ref 2000000, .ref 43, .int v], mjH I2 X2)) (fun _ => rfl) ?_
  refine mjGoL.op (pc' := 1216) (F' := ([some (.ref 2000000), some (.ref 0), some (.ref 43), some (.ref 74), some (.int (nI i)), o5, none, none], [.int (xs (i + 1)), .ref 43, .int v], mjH I2 X2)) (o := mjsldK L xs 1216) rfl (fun _ => sldK_op (m := i + 1) (nI_add i 1) (by omega) hL) ?_
  refine mjGoL.run 4 (pc' := 1221) (F' := ([some (.ref 2000000), some (.ref 0), some (.ref 43), some (.ref 74), some (.int (nI i)), o5, none, none], [.int ((nI i) + 2), .ref 2000000, .int (xs (i + 1)), .ref 43, .int v], mjH I2 X2)) (fun _ => rfl) ?_
  refine mjGoL.op (pc' := 1222) (F' := ([some (.ref 2000000), some (.ref 0), some (.ref 43), some (.ref 74), some (.int (nI i)), o5, none, none], [.int (xs (i + 2)), .int (xs (i + 1)), .ref 43, .int v], mjH I2 X2)) (o := mjsldK L xs 1222) rfl (fun _ => sldK_op (m := i + 2) (nI_add i 2) (by omega) hL) ?_
  refine mjGoL.run 4 (pc' := 1227) (F' := ([some (.ref 2000000), some (.ref 0), some (.ref 43), some (.ref 74), some (.int (nI i)), o5, none, none], [.int ((nI i) + 3), .ref 2000000, .int (xs (i + 2)), .int (xs (i + 1)), .ref 43, .int v], mjH I2 X2)) (fun _ => rfl) ?_
  refine mjGoL.op (pc' := 1228) (F' := ([some (.ref 2000000), some (.ref 0), some (.ref 43), some (.ref 74), some (.int (nI i)), o5, none, none], [.int (xs (i + 3)), .int (xs (i + 2)), .int (xs (i + 1)), .ref 43, .int v], mjH I2 X2)) (o := mjsldK L xs 1228) rfl (fun _ => sldK_op (m := i + 3) (nI_add i 3) (by omega) hL) ?_
  refine mjGoL.call hm (n := 4) (j := 188) (nx := 1231) (o := some (.int v)) (h' := mjH I3 X3) (fun _ => rfl) (ev2) ?_
  show mjGoL _ _ 1231 ([some (.ref 2000000), some (.ref 0), some (.ref 43), some (.ref 74), some (.int (nI i)), o5, none, none], [.int v, .int v], mjH I3 X3) _
  refine mjGoL.run 1 (pc' := (bif decide (v = v) then 1524 else 1234)) (F' := ([some (.ref 2000000), some (.ref 0), some (.ref 43), some (.ref 74), some (.int (nI i)), o5, none, none], [], mjH I3 X3)) (fun _ => rfl) ?_
  refine mjGoL.brT (rfl) ?_
  show mjGoL _ _ 1524 _ _
  exact g _ _ _ hR3 hg3
theorem law_32 {L : Nat} {xs : Nat → Int32} {e1 e2 e3 : MOp} (hL : L ≤ 3072) (hm : ∀ pc, mjMn (pL L xs e1 e2 e3 pc)) (hT : lTos e3) (hE : lElm e1 e2) (d : Nat) {i : Nat} {I : Nat → Nat → Int32} {X : MX} {o5 : Option Value} {r : MO × MH → Prop} (hi : i + 6 ≤ L) (hR : RI I X) (hN : X.2.2.2.1 ≤ 800000) (g : ∀ I3 X3 o5, RI I3 X3 → grw X X3 → mjGoL (pL L xs e1 e2 e3) (d + 13) 1524 ([some (.ref 2000000), some (.ref 0), some (.ref 43), some (.ref 74), some (.int (nI i)), o5, none, none], [], mjH I3 X3) r) : mjGoL (pL L xs e1 e2 e3) (d + 13) 1236 ([some (.ref 2000000), some (.ref 0), some (.ref 43), some (.ref 74), some (.int (nI i)), o5, none, none], [], mjH I X) r := by
  refine mjGoL.run 5 (pc' := 1242) (F' := ([some (.ref 2000000), some (.ref 0), some (.ref 43), some (.ref 74), some (.int (nI i)), o5, none, none], [.int ((nI i) + 1), .ref 2000000, .ref 0], mjH I X)) (fun _ => rfl) ?_
  refine mjGoL.op (pc' := 1243) (F' := ([some (.ref 2000000), some (.ref 0), some (.ref 43), some (.ref 74), some (.int (nI i)), o5, none, none], [.int (xs (i + 1)), .ref 0], mjH I X)) (o := mjsldK L xs 1243) rfl (fun _ => sldK_op (m := i + 1) (nI_add i 1) (by omega) hL) ?_
  refine mjGoL.run 4 (pc' := 1248) (F' := ([some (.ref 2000000), some (.ref 0), some (.ref 43), some (.ref 74), some (.int (nI i)), o5, none, none], [.int ((nI i) + 2), .ref 2000000, .int (xs (i + 1)), .ref 0], mjH I X)) (fun _ => rfl) ?_
  refine mjGoL.op (pc' := 1249) (F' := ([some (.ref 2000000), some (.ref 0), some (.ref 43), some (.ref 74), some (.int (nI i)), o5, none, none], [.int (xs (i + 2)), .int (xs (i + 1)), .ref 0], mjH I X)) (o := mjsldK L xs 1249) rfl (fun _ => sldK_op (m := i + 2) (nI_add i 2) (by omega) hL) ?_
  refine mjGoL.run 4 (pc' := 1254) (F' := ([some (.ref 2000000), some (.ref 0), some (.ref 43), some (.ref 74), some (.int (nI i)), o5, none, none], [.int ((nI i) + 3), .ref 2000000, .int (xs (i + 2)), .int (xs (i + 1)), .ref 0], mjH I X)) (fun _ => rfl) ?_
  refine mjGoL.op (pc' := 1255) (F' := ([some (.ref 2000000), some (.ref 0), some (.ref 43), some (.ref 74), some (.int (nI i)), o5, none, none], [.int (xs (i + 3)), .int (xs (i + 2)), .int (xs (i + 1)), .ref 0], mjH I X)) (o := mjsldK L xs 1255) rfl (fun _ => sldK_op (m := i + 3) (nI_add i 3) (by omega) hL) ?_
  obtain ⟨v, I2, X2, ev1, I3, X3, ev2, hR3, hg3⟩ := k_row d (xs (i + 1)) (xs (i + 2)) (xs (i + 3)) I X hR hN
  refine mjGoL.call hm (n := 4) (j := 126) (nx := 1258) (o := some (.int v)) (h' := mjH I2 X2) (fun _ => rfl) (ev1) ?_
  show mjGoL _ _ 1258 ([some (.ref 2000000), some (.ref 0), some (.ref 43), some (.ref 74), some (.int (nI i)), o5, none, none], [.int v], mjH I2 X2) _
  refine mjGoL.run 5 (pc' := 1264) (F' := ([some (.ref 2000000), some (.ref 0), some (.ref 43), some (.ref 74), some (.int (nI i)), o5, none, none], [.int ((nI i) + 1), .ref 2000000, .ref 43, .int v], mjH I2 X2)) (fun _ => rfl) ?_
  refine mjGoL.op (pc' := 1265) (F' := ([some (.ref 2000000), some (.ref 0), some (.ref 43), some (.ref 74), some (.int (nI i)), o5, none, none], [.int (xs (i + 1)), .ref 43, .int v], mjH I2 X2)) (o := mjsldK L xs 1265) rfl (fun _ => sldK_op (m := i + 1) (nI_add i 1) (by omega) hL) ?_
  refine mjGoL.run 4 (pc' := 1270) (F' := ([some (.ref 2000000), some (.ref 0), some (.ref 43), some (.ref 74), some (.int (nI i)), o5, none, none], [.int ((nI i) + 2), .ref 2000000, .int (xs (i + 1)), .ref 43, .int v], mjH I2 X2)) (fun _ => rfl) ?_
  refine mjGoL.op (pc' := 1271) (F' := ([some (.ref 2000000), some (.ref 0), some (.ref 43), some (.ref 74), some (.int (nI i)), o5, none, none], [.int (xs (i + 2)), .int (xs (i + 1)), .ref 43, .int v], mjH I2 X2)) (o := mjsldK L xs 1271) rfl (fun _ => sldK_op (m := i + 2) (nI_add i 2) (by omega) hL) ?_
  refine mjGoL.run 4 (pc' := 1276) (F' := ([some (.ref 2000000), some (.ref 0), some (.ref 43), some (.ref 74), some (.int (nI i)), o5, none, none], [.int ((nI i) + 3), .ref 2000000, .int (xs (i + 2)), .int (xs (i + 1)), .ref 43, .int v], mjH I2 X2)) (fun _ => rfl) ?_
  refine mjGoL.op (pc' := 1277) (F' := ([some (.ref 2000000), some (.ref 0), some (.ref 43), some (.ref 74), some (.int (nI i)), o5, none, none], [.int (xs (i + 3)), .int (xs (i + 2)), .int (xs (i + 1)), .ref 43, .int v], mjH I2 X2)) (o := mjsldK L xs 1277) rfl (fun _ => sldK_op (m := i + 3) (nI_add i 3) (by omega) hL) ?_
  refine mjGoL.call hm (n := 4) (j := 189) (nx := 1280) (o := some (.int v)) (h' := mjH I3 X3) (fun _ => rfl) (ev2) ?_
  show mjGoL _ _ 1280 ([some (.ref 2000000), some (.ref 0), some (.ref 43), some (.ref 74), some (.int (nI i)), o5, none, none], [.int v, .int v], mjH I3 X3) _
  refine mjGoL.run 1 (pc' := (bif decide (v = v) then 1524 else 1283)) (F' := ([some (.ref 2000000), some (.ref 0), some (.ref 43), some (.ref 74), some (.int (nI i)), o5, none, none], [], mjH I3 X3)) (fun _ => rfl) ?_
  refine mjGoL.brT (rfl) ?_
  show mjGoL _ _ 1524 _ _
  exact g _ _ _ hR3 hg3
theorem law_33 {L : Nat} {xs : Nat → Int32} {e1 e2 e3 : MOp} (hL : L ≤ 3072) (hm : ∀ pc, mjMn (pL L xs e1 e2 e3 pc)) (hT : lTos e3) (hE : lElm e1 e2) (d : Nat) {i : Nat} {I : Nat → Nat → Int32} {X : MX} {o5 : Option Value} {r : MO × MH → Prop} (hi : i + 6 ≤ L) (hR : RI I X) (hN : X.2.2.2.1 ≤ 800000) (g : ∀ I3 X3 o5, RI I3 X3 → grw X X3 → mjGoL (pL L xs e1 e2 e3) (d + 13) 1524 ([some (.ref 2000000), some (.ref 0), some (.ref 43), some (.ref 74), some (.int (nI i)), o5, none, none], [], mjH I3 X3) r) : mjGoL (pL L xs e1 e2 e3) (d + 13) 1285 ([some (.ref 2000000), some (.ref 0), some (.ref 43), some (.ref 74), some (.int (nI i)), o5, none, none], [], mjH I X) r := by
  refine mjGoL.run 5 (pc' := 1291) (F' := ([some (.ref 2000000), some (.ref 0), some (.ref 43), some (.ref 74), some (.int (nI i)), o5, none, none], [.int ((nI i) + 1), .ref 2000000, .ref 0], mjH I X)) (fun _ => rfl) ?_
  refine mjGoL.op (pc' := 1292) (F' := ([some (.ref 2000000), some (.ref 0), some (.ref 43), some (.ref 74), some (.int (nI i)), o5, none, none], [.int (xs (i + 1)), .ref 0], mjH I X)) (o := mjsldK L xs 1292) rfl (fun _ => sldK_op (m := i + 1) (nI_add i 1) (by omega) hL) ?_
  refine mjGoL.run 4 (pc' := 1297) (F' := ([some (.ref 2000000), some (.ref 0), some (.ref 43), some (.ref 74), some (.int (nI i)), o5, none, none], [.int ((nI i) + 2), .ref 2000000, .int (xs (i + 1)), .ref 0], mjH I X)) (fun _ => rfl) ?_
  refine mjGoL.op (pc' := 1298) (F' := ([some (.ref 2000000), some (.ref 0), some (.ref 43), some (.ref 74), some (.int (nI i)), o5, none, none], [.int (xs (i + 2)), .int (xs (i + 1)), .ref 0], mjH I X)) (o := mjsldK L xs 1298) rfl (fun _ => sldK_op (m := i + 2) (nI_add i 2) (by omega) hL) ?_
  refine mjGoL.run 4 (pc' := 1303) (F' := ([some (.ref 2000000), some (.ref 0), some (.ref 43), some (.ref 74), some (.int (nI i)), o5, none, none], [.int ((nI i) + 3), .ref 2000000, .int (xs (i + 2)), .int (xs (i + 1)), .ref 0], mjH I X)) (fun _ => rfl) ?_
  refine mjGoL.op (pc' := 1304) (F' := ([some (.ref 2000000), some (.ref 0), some (.ref 43), some (.ref 74), some (.int (nI i)), o5, none, none], [.int (xs (i + 3)), .int (xs (i + 2)), .int (xs (i + 1)), .ref 0], mjH I X)) (o := mjsldK L xs 1304) rfl (fun _ => sldK_op (m := i + 3) (nI_add i 3) (by omega) hL) ?_
  obtain ⟨v, I2, X2, ev1, I3, X3, ev2, hR3, hg3⟩ := k_put d (xs (i + 1)) (xs (i + 2)) (xs (i + 3)) I X hR hN
  refine mjGoL.call hm (n := 4) (j := 127) (nx := 1307) (o := some (.int v)) (h' := mjH I2 X2) (fun _ => rfl) (ev1) ?_
  show mjGoL _ _ 1307 ([some (.ref 2000000), some (.ref 0), some (.ref 43), some (.ref 74), some (.int (nI i)), o5, none, none], [.int v], mjH I2 X2) _
  refine mjGoL.run 5 (pc' := 1313) (F' := ([some (.ref 2000000), some (.ref 0), some (.ref 43), some (.ref 74), some (.int (nI i)), o5, none, none], [.int ((nI i) + 1), .ref 2000000, .ref 43, .int v], mjH I2 X2)) (fun _ => rfl) ?_
  refine mjGoL.op (pc' := 1314) (F' := ([some (.ref 2000000), some (.ref 0), some (.ref 43), some (.ref 74), some (.int (nI i)), o5, none, none], [.int (xs (i + 1)), .ref 43, .int v], mjH I2 X2)) (o := mjsldK L xs 1314) rfl (fun _ => sldK_op (m := i + 1) (nI_add i 1) (by omega) hL) ?_
  refine mjGoL.run 4 (pc' := 1319) (F' := ([some (.ref 2000000), some (.ref 0), some (.ref 43), some (.ref 74), some (.int (nI i)), o5, none, none], [.int ((nI i) + 2), .ref 2000000, .int (xs (i + 1)), .ref 43, .int v], mjH I2 X2)) (fun _ => rfl) ?_
  refine mjGoL.op (pc' := 1320) (F' := ([some (.ref 2000000), some (.ref 0), some (.ref 43), some (.ref 74), some (.int (nI i)), o5, none, none], [.int (xs (i + 2)), .int (xs (i + 1)), .ref 43, .int v], mjH I2 X2)) (o := mjsldK L xs 1320) rfl (fun _ => sldK_op (m := i + 2) (nI_add i 2) (by omega) hL) ?_
  refine mjGoL.run 4 (pc' := 1325) (F' := ([some (.ref 2000000), some (.ref 0), some (.ref 43), some (.ref 74), some (.int (nI i)), o5, none, none], [.int ((nI i) + 3), .ref 2000000, .int (xs (i + 2)), .int (xs (i + 1)), .ref 43, .int v], mjH I2 X2)) (fun _ => rfl) ?_
  refine mjGoL.op (pc' := 1326) (F' := ([some (.ref 2000000), some (.ref 0), some (.ref 43), some (.ref 74), some (.int (nI i)), o5, none, none], [.int (xs (i + 3)), .int (xs (i + 2)), .int (xs (i + 1)), .ref 43, .int v], mjH I2 X2)) (o := mjsldK L xs 1326) rfl (fun _ => sldK_op (m := i + 3) (nI_add i 3) (by omega) hL) ?_
  refine mjGoL.call hm (n := 4) (j := 190) (nx := 1329) (o := some (.int v)) (h' := mjH I3 X3) (fun _ => rfl) (ev2) ?_
  show mjGoL _ _ 1329 ([some (.ref 2000000), some (.ref 0), some (.ref 43), some (.ref 74), some (.int (nI i)), o5, none, none], [.int v, .int v], mjH I3 X3) _
  refine mjGoL.run 1 (pc' := (bif decide (v = v) then 1524 else 1332)) (F' := ([some (.ref 2000000), some (.ref 0), some (.ref 43), some (.ref 74), some (.int (nI i)), o5, none, none], [], mjH I3 X3)) (fun _ => rfl) ?_
  refine mjGoL.brT (rfl) ?_
  show mjGoL _ _ 1524 _ _
  exact g _ _ _ hR3 hg3
theorem law_34 {L : Nat} {xs : Nat → Int32} {e1 e2 e3 : MOp} (hL : L ≤ 3072) (hm : ∀ pc, mjMn (pL L xs e1 e2 e3 pc)) (hT : lTos e3) (hE : lElm e1 e2) (d : Nat) {i : Nat} {I : Nat → Nat → Int32} {X : MX} {o5 : Option Value} {r : MO × MH → Prop} (hi : i + 6 ≤ L) (hR : RI I X) (hN : X.2.2.2.1 ≤ 800000) (g : ∀ I3 X3 o5, RI I3 X3 → grw X X3 → mjGoL (pL L xs e1 e2 e3) (d + 13) 1524 ([some (.ref 2000000), some (.ref 0), some (.ref 43), some (.ref 74), some (.int (nI i)), o5, none, none], [], mjH I3 X3) r) : mjGoL (pL L xs e1 e2 e3) (d + 13) 1334 ([some (.ref 2000000), some (.ref 0), some (.ref 43), some (.ref 74), some (.int (nI i)), o5, none, none], [], mjH I X) r := by
  refine mjGoL.run 5 (pc' := 1340) (F' := ([some (.ref 2000000), some (.ref 0), some (.ref 43), some (.ref 74), some (.int (nI i)), o5, none, none], [.int ((nI i) + 1), .ref 2000000, .ref 0], mjH I X)) (fun _ => rfl) ?_
  refine mjGoL.op (pc' := 1341) (F' := ([some (.ref 2000000), some (.ref 0), some (.ref 43), some (.ref 74), some (.int (nI i)), o5, none, none], [.int (xs (i + 1)), .ref 0], mjH I X)) (o := mjsldK L xs 1341) rfl (fun _ => sldK_op (m := i + 1) (nI_add i 1) (by omega) hL) ?_
  refine mjGoL.run 4 (pc' := 1346) (F' := ([some (.ref 2000000), some (.ref 0), some (.ref 43), some (.ref 74), some (.int (nI i)), o5, none, none], [.int ((nI i) + 2), .ref 2000000, .int (xs (i + 1)), .ref 0], mjH I X)) (fun _ => rfl) ?_
  refine mjGoL.op (pc' := 1347) (F' := ([some (.ref 2000000), some (.ref 0), some (.ref 43), some (.ref 74), some (.int (nI i)), o5, none, none], [.int (xs (i + 2)), .int (xs (i + 1)), .ref 0], mjH I X)) (o := mjsldK L xs 1347) rfl (fun _ => sldK_op (m := i + 2) (nI_add i 2) (by omega) hL) ?_
  refine mjGoL.run 1 (pc' := 1348) (F' := ([some (.ref 2000000), some (.ref 0), some (.ref 43), some (.ref 74), some (.int (nI i)), o5, none, none], [.ref 74, .int (xs (i + 2)), .int (xs (i + 1)), .ref 0], mjH I X)) (fun _ => rfl) ?_
  obtain ⟨kk, b, I2, X2, ev1, I3, X3, ev2, hR3, hg3, ev3⟩ := hE d I X (xs (i + 1)) (xs (i + 2)) [some (.ref 2000000), some (.ref 0), some (.ref 43), some (.ref 74), some (.int (nI i)), o5, none, none] (some (.int (nI i))) hR hN
  refine mjGoL.op (pc' := 1351) (F' := ([some (.ref 2000000), some (.ref 0), some (.ref 43), some (.ref 74), some (.int (nI i)), o5, none, none], [.int kk], mjH I2 X2)) (o := e1) rfl ev1 ?_
  refine mjGoL.run 6 (pc' := 1359) (F' := ([some (.ref 2000000), some (.ref 0), some (.ref 43), some (.ref 74), some (.int (nI i)), some (.int kk), none, none], [.int ((nI i) + 1), .ref 2000000, .ref 43], mjH I2 X2)) (fun _ => rfl) ?_
  refine mjGoL.op (pc' := 1360) (F' := ([some (.ref 2000000), some (.ref 0), some (.ref 43), some (.ref 74), some (.int (nI i)), some (.int kk), none, none], [.int (xs (i + 1)), .ref 43], mjH I2 X2)) (o := mjsldK L xs 1360) rfl (fun _ => sldK_op (m := i + 1) (nI_add i 1) (by omega) hL) ?_
  refine mjGoL.run 4 (pc' := 1365) (F' := ([some (.ref 2000000), some (.ref 0), some (.ref 43), some (.ref 74), some (.int (nI i)), some (.int kk), none, none], [.int ((nI i) + 2), .ref 2000000, .int (xs (i + 1)), .ref 43], mjH I2 X2)) (fun _ => rfl) ?_
  refine mjGoL.op (pc' := 1366) (F' := ([some (.ref 2000000), some (.ref 0), some (.ref 43), some (.ref 74), some (.int (nI i)), some (.int kk), none, none], [.int (xs (i + 2)), .int (xs (i + 1)), .ref 43], mjH I2 X2)) (o := mjsldK L xs 1366) rfl (fun _ => sldK_op (m := i + 2) (nI_add i 2) (by omega) hL) ?_
  refine mjGoL.call hm (n := 3) (j := 192) (nx := 1369) (o := some (.long b)) (h' := mjH I3 X3) (fun _ => rfl) (ev2) ?_
  show mjGoL _ _ 1369 ([some (.ref 2000000), some (.ref 0), some (.ref 43), some (.ref 74), some (.int (nI i)), some (.int kk), none, none], [.long b], mjH I3 X3) _
  refine mjGoL.op (pc' := 1524) (F' := ([some (.ref 2000000), some (.ref 0), some (.ref 43), some (.ref 74), some (.int (nI i)), some (.int kk), none, none], [], mjH I3 X3)) (o := e2) rfl ev3 ?_
  exact g _ _ _ hR3 hg3
theorem law_35 {L : Nat} {xs : Nat → Int32} {e1 e2 e3 : MOp} (hL : L ≤ 3072) (hm : ∀ pc, mjMn (pL L xs e1 e2 e3 pc)) (hT : lTos e3) (hE : lElm e1 e2) (d : Nat) {i : Nat} {I : Nat → Nat → Int32} {X : MX} {o5 : Option Value} {r : MO × MH → Prop} (hi : i + 6 ≤ L) (hR : RI I X) (hN : X.2.2.2.1 ≤ 800000) (g : ∀ I3 X3 o5, RI I3 X3 → grw X X3 → mjGoL (pL L xs e1 e2 e3) (d + 13) 1524 ([some (.ref 2000000), some (.ref 0), some (.ref 43), some (.ref 74), some (.int (nI i)), o5, none, none], [], mjH I3 X3) r) : mjGoL (pL L xs e1 e2 e3) (d + 13) 1401 ([some (.ref 2000000), some (.ref 0), some (.ref 43), some (.ref 74), some (.int (nI i)), o5, none, none], [], mjH I X) r := by
  refine mjGoL.run 5 (pc' := 1407) (F' := ([some (.ref 2000000), some (.ref 0), some (.ref 43), some (.ref 74), some (.int (nI i)), o5, none, none], [.int ((nI i) + 1), .ref 2000000, .ref 0], mjH I X)) (fun _ => rfl) ?_
  refine mjGoL.op (pc' := 1408) (F' := ([some (.ref 2000000), some (.ref 0), some (.ref 43), some (.ref 74), some (.int (nI i)), o5, none, none], [.int (xs (i + 1)), .ref 0], mjH I X)) (o := mjsldK L xs 1408) rfl (fun _ => sldK_op (m := i + 1) (nI_add i 1) (by omega) hL) ?_
  refine mjGoL.run 4 (pc' := 1413) (F' := ([some (.ref 2000000), some (.ref 0), some (.ref 43), some (.ref 74), some (.int (nI i)), o5, none, none], [.int ((nI i) + 2), .ref 2000000, .int (xs (i + 1)), .ref 0], mjH I X)) (fun _ => rfl) ?_
  refine mjGoL.op (pc' := 1414) (F' := ([some (.ref 2000000), some (.ref 0), some (.ref 43), some (.ref 74), some (.int (nI i)), o5, none, none], [.int (xs (i + 2)), .int (xs (i + 1)), .ref 0], mjH I X)) (o := mjsldK L xs 1414) rfl (fun _ => sldK_op (m := i + 2) (nI_add i 2) (by omega) hL) ?_
  refine mjGoL.run 4 (pc' := 1419) (F' := ([some (.ref 2000000), some (.ref 0), some (.ref 43), some (.ref 74), some (.int (nI i)), o5, none, none], [.int ((nI i) + 3), .ref 2000000, .int (xs (i + 2)), .int (xs (i + 1)), .ref 0], mjH I X)) (fun _ => rfl) ?_
  refine mjGoL.op (pc' := 1420) (F' := ([some (.ref 2000000), some (.ref 0), some (.ref 43), some (.ref 74), some (.int (nI i)), o5, none, none], [.int (xs (i + 3)), .int (xs (i + 2)), .int (xs (i + 1)), .ref 0], mjH I X)) (o := mjsldK L xs 1420) rfl (fun _ => sldK_op (m := i + 3) (nI_add i 3) (by omega) hL) ?_
  refine mjGoL.run 4 (pc' := 1425) (F' := ([some (.ref 2000000), some (.ref 0), some (.ref 43), some (.ref 74), some (.int (nI i)), o5, none, none], [.int ((nI i) + 4), .ref 2000000, .int (xs (i + 3)), .int (xs (i + 2)), .int (xs (i + 1)), .ref 0], mjH I X)) (fun _ => rfl) ?_
  refine mjGoL.op (pc' := 1426) (F' := ([some (.ref 2000000), some (.ref 0), some (.ref 43), some (.ref 74), some (.int (nI i)), o5, none, none], [.int (xs (i + 4)), .int (xs (i + 3)), .int (xs (i + 2)), .int (xs (i + 1)), .ref 0], mjH I X)) (o := mjsldK L xs 1426) rfl (fun _ => sldK_op (m := i + 4) (nI_add i 4) (by omega) hL) ?_
  refine mjGoL.run 4 (pc' := 1431) (F' := ([some (.ref 2000000), some (.ref 0), some (.ref 43), some (.ref 74), some (.int (nI i)), o5, none, none], [.int ((nI i) + 5), .ref 2000000, .int (xs (i + 4)), .int (xs (i + 3)), .int (xs (i + 2)), .int (xs (i + 1)), .ref 0], mjH I X)) (fun _ => rfl) ?_
  refine mjGoL.op (pc' := 1432) (F' := ([some (.ref 2000000), some (.ref 0), some (.ref 43), some (.ref 74), some (.int (nI i)), o5, none, none], [.int (xs (i + 5)), .int (xs (i + 4)), .int (xs (i + 3)), .int (xs (i + 2)), .int (xs (i + 1)), .ref 0], mjH I X)) (o := mjsldK L xs 1432) rfl (fun _ => sldK_op (m := i + 5) (nI_add i 5) (by omega) hL) ?_
  obtain ⟨v, I2, X2, ev1, I3, X3, ev2, hR3, hg3⟩ := k_copy d (xs (i + 1)) (xs (i + 2)) (xs (i + 3)) (xs (i + 4)) (xs (i + 5)) I X hR hN
  refine mjGoL.call hm (n := 6) (j := 128) (nx := 1435) (o := some (.int v)) (h' := mjH I2 X2) (fun _ => rfl) (ev1) ?_
  show mjGoL _ _ 1435 ([some (.ref 2000000), some (.ref 0), some (.ref 43), some (.ref 74), some (.int (nI i)), o5, none, none], [.int v], mjH I2 X2) _
  refine mjGoL.run 5 (pc' := 1441) (F' := ([some (.ref 2000000), some (.ref 0), some (.ref 43), some (.ref 74), some (.int (nI i)), o5, none, none], [.int ((nI i) + 1), .ref 2000000, .ref 43, .int v], mjH I2 X2)) (fun _ => rfl) ?_
  refine mjGoL.op (pc' := 1442) (F' := ([some (.ref 2000000), some (.ref 0), some (.ref 43), some (.ref 74), some (.int (nI i)), o5, none, none], [.int (xs (i + 1)), .ref 43, .int v], mjH I2 X2)) (o := mjsldK L xs 1442) rfl (fun _ => sldK_op (m := i + 1) (nI_add i 1) (by omega) hL) ?_
  refine mjGoL.run 4 (pc' := 1447) (F' := ([some (.ref 2000000), some (.ref 0), some (.ref 43), some (.ref 74), some (.int (nI i)), o5, none, none], [.int ((nI i) + 2), .ref 2000000, .int (xs (i + 1)), .ref 43, .int v], mjH I2 X2)) (fun _ => rfl) ?_
  refine mjGoL.op (pc' := 1448) (F' := ([some (.ref 2000000), some (.ref 0), some (.ref 43), some (.ref 74), some (.int (nI i)), o5, none, none], [.int (xs (i + 2)), .int (xs (i + 1)), .ref 43, .int v], mjH I2 X2)) (o := mjsldK L xs 1448) rfl (fun _ => sldK_op (m := i + 2) (nI_add i 2) (by omega) hL) ?_
  refine mjGoL.run 4 (pc' := 1453) (F' := ([some (.ref 2000000), some (.ref 0), some (.ref 43), some (.ref 74), some (.int (nI i)), o5, none, none], [.int ((nI i) + 3), .ref 2000000, .int (xs (i + 2)), .int (xs (i + 1)), .ref 43, .int v], mjH I2 X2)) (fun _ => rfl) ?_
  refine mjGoL.op (pc' := 1454) (F' := ([some (.ref 2000000), some (.ref 0), some (.ref 43), some (.ref 74), some (.int (nI i)), o5, none, none], [.int (xs (i + 3)), .int (xs (i + 2)), .int (xs (i + 1)), .ref 43, .int v], mjH I2 X2)) (o := mjsldK L xs 1454) rfl (fun _ => sldK_op (m := i + 3) (nI_add i 3) (by omega) hL) ?_
  refine mjGoL.run 4 (pc' := 1459) (F' := ([some (.ref 2000000), some (.ref 0), some (.ref 43), some (.ref 74), some (.int (nI i)), o5, none, none], [.int ((nI i) + 4), .ref 2000000, .int (xs (i + 3)), .int (xs (i + 2)), .int (xs (i + 1)), .ref 43, .int v], mjH I2 X2)) (fun _ => rfl) ?_
  refine mjGoL.op (pc' := 1460) (F' := ([some (.ref 2000000), some (.ref 0), some (.ref 43), some (.ref 74), some (.int (nI i)), o5, none, none], [.int (xs (i + 4)), .int (xs (i + 3)), .int (xs (i + 2)), .int (xs (i + 1)), .ref 43, .int v], mjH I2 X2)) (o := mjsldK L xs 1460) rfl (fun _ => sldK_op (m := i + 4) (nI_add i 4) (by omega) hL) ?_
  refine mjGoL.run 4 (pc' := 1465) (F' := ([some (.ref 2000000), some (.ref 0), some (.ref 43), some (.ref 74), some (.int (nI i)), o5, none, none], [.int ((nI i) + 5), .ref 2000000, .int (xs (i + 4)), .int (xs (i + 3)), .int (xs (i + 2)), .int (xs (i + 1)), .ref 43, .int v], mjH I2 X2)) (fun _ => rfl) ?_
  refine mjGoL.op (pc' := 1466) (F' := ([some (.ref 2000000), some (.ref 0), some (.ref 43), some (.ref 74), some (.int (nI i)), o5, none, none], [.int (xs (i + 5)), .int (xs (i + 4)), .int (xs (i + 3)), .int (xs (i + 2)), .int (xs (i + 1)), .ref 43, .int v], mjH I2 X2)) (o := mjsldK L xs 1466) rfl (fun _ => sldK_op (m := i + 5) (nI_add i 5) (by omega) hL) ?_
  refine mjGoL.call hm (n := 6) (j := 193) (nx := 1469) (o := some (.int v)) (h' := mjH I3 X3) (fun _ => rfl) (ev2) ?_
  show mjGoL _ _ 1469 ([some (.ref 2000000), some (.ref 0), some (.ref 43), some (.ref 74), some (.int (nI i)), o5, none, none], [.int v, .int v], mjH I3 X3) _
  refine mjGoL.run 1 (pc' := (bif decide (v = v) then 1524 else 1472)) (F' := ([some (.ref 2000000), some (.ref 0), some (.ref 43), some (.ref 74), some (.int (nI i)), o5, none, none], [], mjH I3 X3)) (fun _ => rfl) ?_
  refine mjGoL.brT (rfl) ?_
  show mjGoL _ _ 1524 _ _
  exact g _ _ _ hR3 hg3
theorem law_36 {L : Nat} {xs : Nat → Int32} {e1 e2 e3 : MOp} (hL : L ≤ 3072) (hm : ∀ pc, mjMn (pL L xs e1 e2 e3 pc)) (hT : lTos e3) (hE : lElm e1 e2) (d : Nat) {i : Nat} {I : Nat → Nat → Int32} {X : MX} {o5 : Option Value} {r : MO × MH → Prop} (hi : i + 6 ≤ L) (hR : RI I X) (hN : X.2.2.2.1 ≤ 800000) (g : ∀ I3 X3 o5, RI I3 X3 → grw X X3 → mjGoL (pL L xs e1 e2 e3) (d + 13) 1524 ([some (.ref 2000000), some (.ref 0), some (.ref 43), some (.ref 74), some (.int (nI i)), o5, none, none], [], mjH I3 X3) r) : mjGoL (pL L xs e1 e2 e3) (d + 13) 1474 ([some (.ref 2000000), some (.ref 0), some (.ref 43), some (.ref 74), some (.int (nI i)), o5, none, none], [], mjH I X) r := by
  refine mjGoL.run 5 (pc' := 1480) (F' := ([some (.ref 2000000), some (.ref 0), some (.ref 43), some (.ref 74), some (.int (nI i)), o5, none, none], [.int ((nI i) + 1), .ref 2000000, .ref 0], mjH I X)) (fun _ => rfl) ?_
  refine mjGoL.op (pc' := 1481) (F' := ([some (.ref 2000000), some (.ref 0), some (.ref 43), some (.ref 74), some (.int (nI i)), o5, none, none], [.int (xs (i + 1)), .ref 0], mjH I X)) (o := mjsldK L xs 1481) rfl (fun _ => sldK_op (m := i + 1) (nI_add i 1) (by omega) hL) ?_
  obtain ⟨v, I2, X2, ev1, I3, X3, ev2, hR3, hg3⟩ := k_skill d (xs (i + 1)) I X hR hN
  refine mjGoL.call hm (n := 2) (j := 130) (nx := 1484) (o := some (.int v)) (h' := mjH I2 X2) (fun _ => rfl) (ev1) ?_
  show mjGoL _ _ 1484 ([some (.ref 2000000), some (.ref 0), some (.ref 43), some (.ref 74), some (.int (nI i)), o5, none, none], [.int v], mjH I2 X2) _
  refine mjGoL.run 5 (pc' := 1490) (F' := ([some (.ref 2000000), some (.ref 0), some (.ref 43), some (.ref 74), some (.int (nI i)), o5, none, none], [.int ((nI i) + 1), .ref 2000000, .ref 43, .int v], mjH I2 X2)) (fun _ => rfl) ?_
  refine mjGoL.op (pc' := 1491) (F' := ([some (.ref 2000000), some (.ref 0), some (.ref 43), some (.ref 74), some (.int (nI i)), o5, none, none], [.int (xs (i + 1)), .ref 43, .int v], mjH I2 X2)) (o := mjsldK L xs 1491) rfl (fun _ => sldK_op (m := i + 1) (nI_add i 1) (by omega) hL) ?_
  refine mjGoL.call hm (n := 2) (j := 195) (nx := 1494) (o := some (.int v)) (h' := mjH I3 X3) (fun _ => rfl) (ev2) ?_
  show mjGoL _ _ 1494 ([some (.ref 2000000), some (.ref 0), some (.ref 43), some (.ref 74), some (.int (nI i)), o5, none, none], [.int v, .int v], mjH I3 X3) _
  refine mjGoL.run 1 (pc' := (bif decide (v = v) then 1524 else 1497)) (F' := ([some (.ref 2000000), some (.ref 0), some (.ref 43), some (.ref 74), some (.int (nI i)), o5, none, none], [], mjH I3 X3)) (fun _ => rfl) ?_
  refine mjGoL.brT (rfl) ?_
  show mjGoL _ _ 1524 _ _
  exact g _ _ _ hR3 hg3
theorem law_37 {L : Nat} {xs : Nat → Int32} {e1 e2 e3 : MOp} (hL : L ≤ 3072) (hm : ∀ pc, mjMn (pL L xs e1 e2 e3 pc)) (hT : lTos e3) (hE : lElm e1 e2) (d : Nat) {i : Nat} {I : Nat → Nat → Int32} {X : MX} {o5 : Option Value} {r : MO × MH → Prop} (hi : i + 6 ≤ L) (hR : RI I X) (hN : X.2.2.2.1 ≤ 800000) (g : ∀ I3 X3 o5, RI I3 X3 → grw X X3 → mjGoL (pL L xs e1 e2 e3) (d + 13) 1524 ([some (.ref 2000000), some (.ref 0), some (.ref 43), some (.ref 74), some (.int (nI i)), o5, none, none], [], mjH I3 X3) r) : mjGoL (pL L xs e1 e2 e3) (d + 13) 1499 ([some (.ref 2000000), some (.ref 0), some (.ref 43), some (.ref 74), some (.int (nI i)), o5, none, none], [], mjH I X) r := by
  refine mjGoL.run 5 (pc' := 1505) (F' := ([some (.ref 2000000), some (.ref 0), some (.ref 43), some (.ref 74), some (.int (nI i)), o5, none, none], [.int ((nI i) + 1), .ref 2000000, .ref 0], mjH I X)) (fun _ => rfl) ?_
  refine mjGoL.op (pc' := 1506) (F' := ([some (.ref 2000000), some (.ref 0), some (.ref 43), some (.ref 74), some (.int (nI i)), o5, none, none], [.int (xs (i + 1)), .ref 0], mjH I X)) (o := mjsldK L xs 1506) rfl (fun _ => sldK_op (m := i + 1) (nI_add i 1) (by omega) hL) ?_
  obtain ⟨v, I2, X2, ev1, I3, X3, ev2, hR3, hg3⟩ := hT d I X (xs (i + 1)) [some (.ref 2000000), some (.ref 0), some (.ref 43), some (.ref 74), some (.int (nI i)), o5, none, none] hR hN
  refine mjGoL.op (pc' := 1509) (F' := ([some (.ref 2000000), some (.ref 0), some (.ref 43), some (.ref 74), some (.int (nI i)), o5, none, none], [.int v], mjH I2 X2)) (o := e3) rfl ev1 ?_
  refine mjGoL.run 5 (pc' := 1515) (F' := ([some (.ref 2000000), some (.ref 0), some (.ref 43), some (.ref 74), some (.int (nI i)), o5, none, none], [.int ((nI i) + 1), .ref 2000000, .ref 43, .int v], mjH I2 X2)) (fun _ => rfl) ?_
  refine mjGoL.op (pc' := 1516) (F' := ([some (.ref 2000000), some (.ref 0), some (.ref 43), some (.ref 74), some (.int (nI i)), o5, none, none], [.int (xs (i + 1)), .ref 43, .int v], mjH I2 X2)) (o := mjsldK L xs 1516) rfl (fun _ => sldK_op (m := i + 1) (nI_add i 1) (by omega) hL) ?_
  refine mjGoL.call hm (n := 2) (j := 196) (nx := 1519) (o := some (.int v)) (h' := mjH I3 X3) (fun _ => rfl) (ev2) ?_
  show mjGoL _ _ 1519 ([some (.ref 2000000), some (.ref 0), some (.ref 43), some (.ref 74), some (.int (nI i)), o5, none, none], [.int v, .int v], mjH I3 X3) _
  refine mjGoL.run 1 (pc' := (bif decide (v = v) then 1524 else 1522)) (F' := ([some (.ref 2000000), some (.ref 0), some (.ref 43), some (.ref 74), some (.int (nI i)), o5, none, none], [], mjH I3 X3)) (fun _ => rfl) ?_
  refine mjGoL.brT (rfl) ?_
  show mjGoL _ _ 1524 _ _
  exact g _ _ _ hR3 hg3
theorem law_loop {L : Nat} {xs : Nat → Int32} {e1 e2 e3 : MOp} (hL : L ≤ 3072) (hm : ∀ pc, mjMn (pL L xs e1 e2 e3 pc)) (hT : lTos e3) (hE : lElm e1 e2) (d : Nat) : ∀ (k t : Nat) (I : Nat → Nat → Int32) (X : MX) (o5 : Option Value), L / 6 = t + k → RI I X → lBd X t → mjGoL (pL L xs e1 e2 e3) (d + 13) 23 ([some (.ref 2000000), some (.ref 0), some (.ref 43), some (.ref 74), some (.int (nI (6 * t))), o5, none, none], [], mjH I X) (fun x => x.1 = .inl (some (.int 1)) ∧ mjC x.2 ≤ 601024 ∧ mjS x.2 ≤ 7293034) := by
  intro k
  induction k with
  | zero =>
    intro t I X o5 hk hR hb
    have e6 : (6 : Int32).toInt = 6 := by decide
    refine mjGoL.run 2 (pc' := 26) (F' := ([some (.ref 2000000), some (.ref 0), some (.ref 43), some (.ref 74), some (.int (nI (6 * t))), o5, none, none], [.ref 2000000, .int (nI (6 * t))], mjH I X)) (fun _ => rfl) ?_
    refine mjGoL.op (pc' := 27) (F' := ([some (.ref 2000000), some (.ref 0), some (.ref 43), some (.ref 74), some (.int (nI (6 * t))), o5, none, none], [.int (nI L), .int (nI (6 * t))], mjH I X)) (o := mjslenK L 27) rfl (fun _ => rfl) ?_
    refine mjGoL.run 2 (pc' := 30) (F' := ([some (.ref 2000000), some (.ref 0), some (.ref 43), some (.ref 74), some (.int (nI (6 * t))), o5, none, none], [.int ((nI L) - 6), .int (nI (6 * t))], mjH I X)) (fun _ => rfl) ?_
    refine mjGoL.run 1 (pc' := (bif decide (((nI L) - 6) < (nI (6 * t))) then 1530 else 33)) (F' := ([some (.ref 2000000), some (.ref 0), some (.ref 43), some (.ref 74), some (.int (nI (6 * t))), o5, none, none], [], mjH I X)) (fun _ => rfl) ?_
    refine mjGoL.brT (by rw [i32_lt, i32_sub (by rw [nI_toInt (by omega), e6]; omega) (by rw [nI_toInt (by omega), e6]; omega), nI_toInt (by omega), nI_toInt (by omega), e6]; omega) ?_
    show mjGoL _ _ 1530 _ _
    exact mjGoL.ret 2 (fun _ => rfl) ⟨rfl, by show X.2.2.2.2.1 ≤ 601024; have := hb.2.1; omega, by show X.2.2.2.2.2 ≤ 7293034; have := hb.2.2; omega⟩
  | succ k ih =>
    intro t I X o5 hk hR hb
    have e6 : (6 : Int32).toInt = 6 := by decide
    have hi : 6 * t + 6 ≤ L := by omega
    have hN : X.2.2.2.1 ≤ 800000 := by have := hb.1; omega
    have g : ∀ I3 X3 o5, RI I3 X3 → grw X X3 → mjGoL (pL L xs e1 e2 e3) (d + 13) 1524 ([some (.ref 2000000), some (.ref 0), some (.ref 43), some (.ref 74), some (.int (nI (6 * t))), o5, none, none], [], mjH I3 X3) (fun x => x.1 = .inl (some (.int 1)) ∧ mjC x.2 ≤ 601024 ∧ mjS x.2 ≤ 7293034) := fun I3 X3 o5 hR3 hg3 => by
      have k9 := ih (t + 1) I3 X3 o5 (by omega) hR3 (hb.s hg3)
      refine mjGoL.run 2 (pc' := 23) (F' := ([some (.ref 2000000), some (.ref 0), some (.ref 43), some (.ref 74), some (.int ((nI (6 * t)) + 6)), o5, none, none], [], mjH I3 X3)) (fun _ => rfl) ?_
      rw [show (nI (6 * t) + 6 : Int32) = nI (6 * (t + 1)) from nI_add _ 6]
      exact k9
    obtain ⟨i, hi9⟩ : ∃ i, i = 6 * t := ⟨_, rfl⟩
    rw [← hi9] at hi g ⊢
    refine mjGoL.run 2 (pc' := 26) (F' := ([some (.ref 2000000), some (.ref 0), some (.ref 43), some (.ref 74), some (.int (nI i)), o5, none, none], [.ref 2000000, .int (nI i)], mjH I X)) (fun _ => rfl) ?_
    refine mjGoL.op (pc' := 27) (F' := ([some (.ref 2000000), some (.ref 0), some (.ref 43), some (.ref 74), some (.int (nI i)), o5, none, none], [.int (nI L), .int (nI i)], mjH I X)) (o := mjslenK L 27) rfl (fun _ => rfl) ?_
    refine mjGoL.run 2 (pc' := 30) (F' := ([some (.ref 2000000), some (.ref 0), some (.ref 43), some (.ref 74), some (.int (nI i)), o5, none, none], [.int ((nI L) - 6), .int (nI i)], mjH I X)) (fun _ => rfl) ?_
    refine mjGoL.run 1 (pc' := (bif decide (((nI L) - 6) < (nI i)) then 1530 else 33)) (F' := ([some (.ref 2000000), some (.ref 0), some (.ref 43), some (.ref 74), some (.int (nI i)), o5, none, none], [], mjH I X)) (fun _ => rfl) ?_
    refine mjGoL.brF (by rw [i32_lt, i32_sub (by rw [nI_toInt (by omega), e6]; omega) (by rw [nI_toInt (by omega), e6]; omega), nI_toInt (by omega), nI_toInt (by omega), e6]; omega) ?_
    show mjGoL _ _ 33 _ _
    refine mjGoL.run 2 (pc' := 36) (F' := ([some (.ref 2000000), some (.ref 0), some (.ref 43), some (.ref 74), some (.int (nI i)), o5, none, none], [.int (nI i), .ref 2000000], mjH I X)) (fun _ => rfl) ?_
    refine mjGoL.op (pc' := 37) (F' := ([some (.ref 2000000), some (.ref 0), some (.ref 43), some (.ref 74), some (.int (nI i)), o5, none, none], [.int (xs i)], mjH I X)) (o := mjsldK L xs 37) rfl (fun _ => sldK_op (m := i) (rfl) (by omega) hL) ?_
    refine mjGoL.run 2 (pc' := 40) (F' := ([some (.ref 2000000), some (.ref 0), some (.ref 43), some (.ref 74), some (.int (nI i)), o5, none, none], [.int ((xs i) &&& 63)], mjH I X)) (fun _ => rfl) ?_
    refine mjGoL.run 1 (pc' := (bif decide (((xs i) &&& 63) = 0) then 208 else (bif decide (((xs i) &&& 63) = 1) then 233 else (bif decide (((xs i) &&& 63) = 2) then 258 else (bif decide (((xs i) &&& 63) = 3) then 283 else (bif decide (((xs i) &&& 63) = 4) then 320 else (bif decide (((xs i) &&& 63) = 5) then 357 else (bif decide (((xs i) &&& 63) = 6) then 382 else (bif decide (((xs i) &&& 63) = 7) then 431 else (bif decide (((xs i) &&& 63) = 8) then 468 else (bif decide (((xs i) &&& 63) = 9) then 505 else (bif decide (((xs i) &&& 63) = 10) then 542 else (bif decide (((xs i) &&& 63) = 11) then 567 else (bif decide (((xs i) &&& 63) = 12) then 592 else (bif decide (((xs i) &&& 63) = 13) then 617 else (bif decide (((xs i) &&& 63) = 14) then 642 else (bif decide (((xs i) &&& 63) = 15) then 679 else (bif decide (((xs i) &&& 63) = 16) then 716 else (bif decide (((xs i) &&& 63) = 17) then 753 else (bif decide (((xs i) &&& 63) = 18) then 790 else (bif decide (((xs i) &&& 63) = 19) then 827 else (bif decide (((xs i) &&& 63) = 20) then 888 else (bif decide (((xs i) &&& 63) = 21) then 937 else (bif decide (((xs i) &&& 63) = 22) then 962 else (bif decide (((xs i) &&& 63) = 23) then 975 else (bif decide (((xs i) &&& 63) = 24) then 1012 else (bif decide (((xs i) &&& 63) = 25) then 1025 else (bif decide (((xs i) &&& 63) = 26) then 1038 else (bif decide (((xs i) &&& 63) = 27) then 1099 else (bif decide (((xs i) &&& 63) = 28) then 1136 else (bif decide (((xs i) &&& 63) = 29) then 1149 else (bif decide (((xs i) &&& 63) = 30) then 1162 else (bif decide (((xs i) &&& 63) = 31) then 1187 else (bif decide (((xs i) &&& 63) = 32) then 1236 else (bif decide (((xs i) &&& 63) = 33) then 1285 else (bif decide (((xs i) &&& 63) = 34) then 1334 else (bif decide (((xs i) &&& 63) = 35) then 1401 else (bif decide (((xs i) &&& 63) = 36) then 1474 else (bif decide (((xs i) &&& 63) = 37) then 1499 else 1524))))))))))))))))))))))))))))))))))))))) (F' := ([some (.ref 2000000), some (.ref 0), some (.ref 43), some (.ref 74), some (.int (nI i)), o5, none, none], [], mjH I X)) (fun _ => rfl) ?_
    refine mjGoL.br (fun _ => law_0 hL hm hT hE d hi hR hN g) (fun _ => ?_)
    refine mjGoL.br (fun _ => law_1 hL hm hT hE d hi hR hN g) (fun _ => ?_)
    refine mjGoL.br (fun _ => law_2 hL hm hT hE d hi hR hN g) (fun _ => ?_)
    refine mjGoL.br (fun _ => law_3 hL hm hT hE d hi hR hN g) (fun _ => ?_)
    refine mjGoL.br (fun _ => law_4 hL hm hT hE d hi hR hN g) (fun _ => ?_)
    refine mjGoL.br (fun _ => law_5 hL hm hT hE d hi hR hN g) (fun _ => ?_)
    refine mjGoL.br (fun _ => law_6 hL hm hT hE d hi hR hN g) (fun _ => ?_)
    refine mjGoL.br (fun _ => law_7 hL hm hT hE d hi hR hN g) (fun _ => ?_)
    refine mjGoL.br (fun _ => law_8 hL hm hT hE d hi hR hN g) (fun _ => ?_)
    refine mjGoL.br (fun _ => law_9 hL hm hT hE d hi hR hN g) (fun _ => ?_)
    refine mjGoL.br (fun _ => law_10 hL hm hT hE d hi hR hN g) (fun _ => ?_)
    refine mjGoL.br (fun _ => law_11 hL hm hT hE d hi hR hN g) (fun _ => ?_)
    refine mjGoL.br (fun _ => law_12 hL hm hT hE d hi hR hN g) (fun _ => ?_)
    refine mjGoL.br (fun _ => law_13 hL hm hT hE d hi hR hN g) (fun _ => ?_)
    refine mjGoL.br (fun _ => law_14 hL hm hT hE d hi hR hN g) (fun _ => ?_)
    refine mjGoL.br (fun _ => law_15 hL hm hT hE d hi hR hN g) (fun _ => ?_)
    refine mjGoL.br (fun _ => law_16 hL hm hT hE d hi hR hN g) (fun _ => ?_)
    refine mjGoL.br (fun _ => law_17 hL hm hT hE d hi hR hN g) (fun _ => ?_)
    refine mjGoL.br (fun _ => law_18 hL hm hT hE d hi hR hN g) (fun _ => ?_)
    refine mjGoL.br (fun _ => law_19 hL hm hT hE d hi hR hN g) (fun _ => ?_)
    refine mjGoL.br (fun _ => law_20 hL hm hT hE d hi hR hN g) (fun _ => ?_)
    refine mjGoL.br (fun _ => law_21 hL hm hT hE d hi hR hN g) (fun _ => ?_)
    refine mjGoL.br (fun _ => law_22 hL hm hT hE d hi hR hN g) (fun _ => ?_)
    refine mjGoL.br (fun _ => law_23 hL hm hT hE d hi hR hN g) (fun _ => ?_)
    refine mjGoL.br (fun _ => law_24 hL hm hT hE d hi hR hN g) (fun _ => ?_)
    refine mjGoL.br (fun _ => law_25 hL hm hT hE d hi hR hN g) (fun _ => ?_)
    refine mjGoL.br (fun _ => law_26 hL hm hT hE d hi hR hN g) (fun _ => ?_)
    refine mjGoL.br (fun _ => law_27 hL hm hT hE d hi hR hN g) (fun _ => ?_)
    refine mjGoL.br (fun _ => law_28 hL hm hT hE d hi hR hN g) (fun _ => ?_)
    refine mjGoL.br (fun _ => law_29 hL hm hT hE d hi hR hN g) (fun _ => ?_)
    refine mjGoL.br (fun _ => law_30 hL hm hT hE d hi hR hN g) (fun _ => ?_)
    refine mjGoL.br (fun _ => law_31 hL hm hT hE d hi hR hN g) (fun _ => ?_)
    refine mjGoL.br (fun _ => law_32 hL hm hT hE d hi hR hN g) (fun _ => ?_)
    refine mjGoL.br (fun _ => law_33 hL hm hT hE d hi hR hN g) (fun _ => ?_)
    refine mjGoL.br (fun _ => law_34 hL hm hT hE d hi hR hN g) (fun _ => ?_)
    refine mjGoL.br (fun _ => law_35 hL hm hT hE d hi hR hN g) (fun _ => ?_)
    refine mjGoL.br (fun _ => law_36 hL hm hT hE d hi hR hN g) (fun _ => ?_)
    refine mjGoL.br (fun _ => law_37 hL hm hT hE d hi hR hN g) (fun _ => ?_)
    exact g I X o5 hR grw.rf
