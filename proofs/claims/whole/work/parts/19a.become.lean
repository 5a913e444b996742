/-! a town as another: become -/
def stO (X : MX) (k j : Nat) (o : Option Nat) : MX := (mjU X.1 k j o, X.2)
theorem stO_H {I : Nat → Nat → Int32} {X : MX} {k j : Nat} {o : Option Nat} (hk : mjfix k j = none) : mjsP (mjH I X) k j o = mjH I (stO X k j o) := by
  have e : mjU (mjfP X.1) k j o = mjfP (mjU X.1 k j o) := by
    funext b c
    unfold mjU mjfP
    by_cases h1 : b = k
    · subst h1
      rw [if_pos rfl]
      by_cases h2 : c = j
      · subst h2
        rw [if_pos rfl, hk]
        show _ = (if b = b then (if c = c then o else X.1 b c) else X.1 b c)
        rw [if_pos rfl, if_pos rfl]
      · rw [if_neg h2]
        show _ = (match mjfix b c with | some k => some k | none => if b = b then (if c = j then o else X.1 b c) else X.1 b c)
        rw [if_pos rfl, if_neg h2]
        rfl
    · rw [if_neg h1]
      show _ = (match mjfix b c with | some k => some k | none => if b = k then (if c = j then o else X.1 b c) else X.1 b c)
      rw [if_neg h1]
      rfl
  unfold mjsP mjH stO
  dsimp only
  rw [e]
theorem aastN_op {I : Nat → Nat → Int32} {X : MX} {k j n nx : Nat} {al : List (Option Value)} {st : List Value} {call : MCall} (hj : j < n) (hn2 : n < 2 ^ 31) (hk : (Nat.blt k (mjN (mjH I X)) && (mjT (mjH I X) k).1 == 14) = true) (hn : (mjT (mjH I X) k).2 = n) (hf : mjfix k j = none) : mjaast 14 [0, 1, 2, 4, 5, 7, 8, 9] nx call (al, .null :: .int (nI j) :: .ref k :: st, mjH I X) = some (.inl (nx, (al, st, mjH I (stO X k j none)))) := by
  unfold mjaast
  show (bif (Nat.blt k (mjN (mjH I X)) && (mjT (mjH I X) k).1 == 14) && mjin (nI j) (mjT (mjH I X) k).2 then (some (.inl (nx, (al, st, mjsP (mjH I X) k (nI j).toNatClampNeg none))) : Option ((Nat × MF) ⊕ (MO × MH))) else none) = _
  rw [hk, hn, mjin_n hj hn2, nI_clamp (by omega), stO_H hf]
  rfl
theorem aaldN_at {al : List (Option Value)} {st : List Value} {t nx k j n : Nat} {h : MH} {call : MCall} (hj : j < n) (hn2 : n < 2 ^ 31) (hk : (Nat.blt k (mjN h) && (mjT h k).1 == t) = true) (hn : (mjT h k).2 = n) (hP : mjP h k j = none) : mjaald t nx call (al, .int (nI j) :: .ref k :: st, h) = some (.inl (nx, (al, .null :: st, h))) := by
  unfold mjaald
  show (bif (Nat.blt k (mjN h) && (mjT h k).1 == t) && mjin (nI j) (mjT h k).2 then (some (.inl (nx, (al, va_rf (mjP h k (nI j).toNatClampNeg) :: st, h))) : Option ((Nat × MF) ⊕ (MO × MH))) else none) = _
  rw [hk, hn, mjin_n hj hn2, nI_clamp (by omega), hP]
  rfl
def cpP (X : MX) (k1 k0 n : Nat) : MX := (mjR X.1 k1 (va_cpy (X.1 k0) (X.1 k1) 0 0 n), X.2)
theorem cpP_s {X : MX} {k1 k0 n : Nat} {v : Option Nat} (hv : X.1 k0 n = v) : stO (cpP X k1 k0 n) k1 n v = cpP X k1 k0 (n + 1) := by
  unfold stO cpP
  dsimp only
  have q := cpy_s (I := X.1) (f := X.1 k0) (g := X.1 k1) (k := k1) (s := 0) (t := 0) (n := n) (v := v) (by rw [Nat.zero_add]; exact hv.symm)
  rw [Nat.zero_add] at q
  rw [q]
theorem cpP_0 {X : MX} {k1 k0 : Nat} : cpP X k1 k0 0 = X := by
  unfold cpP
  rw [cpy_0, mjR_id]
theorem cpP_r {X : MX} {k1 k0 n k j : Nat} (h : k ≠ k1) : (cpP X k1 k0 n).1 k j = X.1 k j := by
  show mjR X.1 k1 _ k j = _
  rw [mjR_ne h]
theorem cpP_k {X : MX} {k1 k0 n j : Nat} (h : j < n) : (cpP X k1 k0 n).1 k1 j = X.1 k0 j := by
  show mjR X.1 k1 _ k1 j = _
  rw [mjR_eq]
  unfold va_cpy
  rw [if_pos (by omega), show 0 + (j - 0) = j by omega]
def bcI13_1 (I : Nat → Nat → Int32) : Nat → Nat → Int32 := (mjU (mjU (mjU (mjU (mjR (mjR (mjR (mjR I 14 (va_cpy (I 2) (I 14) 0 0 5)) 15 (va_cpy (I 3) (I 15) 0 0 5)) 16 (va_cpy (I 4) (I 16) 0 0 5)) 18 (va_cpy (I 6) (I 18) 0 0 8)) 13 5 (I 1 5)) 13 6 (I 1 6)) 13 7 (I 1 7)) 13 8 (I 1 8))
theorem bc13_1_loop {d : Nat} {I : Nat → Nat → Int32} {X : MX} (hA : ∀ i, i < 6 → X.1 5 i = none ∨ ∃ a kd, X.1 5 i = some a ∧ lkK X a kd) : ∀ (k j : Nat), j + k = 6 → mjGo d nyX10_become 59 ([some (.ref 13), some (.ref 1), some (.int (nI j))], [], mjH (mjR (mjR (mjR (mjR I 14 (va_cpy (I 2) (I 14) 0 0 5)) 15 (va_cpy (I 3) (I 15) 0 0 5)) 16 (va_cpy (I 4) (I 16) 0 0 5)) 18 (va_cpy (I 6) (I 18) 0 0 8)) (cpP X 17 5 j)) (fun x => x = (.inl none, mjH (bcI13_1 I) (cpP X 17 5 6))) := by
  intro k
  induction k with
  | zero =>
    intro j hj
    have e : j = 6 := by omega
    subst e
    refine mjGo.run 2 (pc' := 62) (F' := ([some (.ref 13), some (.ref 1), some (.int (nI 6))], [.int 6, .int (nI 6)], mjH (mjR (mjR (mjR (mjR I 14 (va_cpy (I 2) (I 14) 0 0 5)) 15 (va_cpy (I 3) (I 15) 0 0 5)) 16 (va_cpy (I 4) (I 16) 0 0 5)) 18 (va_cpy (I 6) (I 18) 0 0 8)) (cpP X 17 5 6))) (fun _ => rfl) ?_
    refine mjGo.run 1 (pc' := (bif decide (6 ≤ (nI 6)) then 83 else 65)) (F' := ([some (.ref 13), some (.ref 1), some (.int (nI 6))], [], mjH (mjR (mjR (mjR (mjR I 14 (va_cpy (I 2) (I 14) 0 0 5)) 15 (va_cpy (I 3) (I 15) 0 0 5)) 16 (va_cpy (I 4) (I 16) 0 0 5)) 18 (va_cpy (I 6) (I 18) 0 0 8)) (cpP X 17 5 6))) (fun _ => rfl) ?_
    refine mjGo.brT (show 6 ≤ (nI 6) by rw [show (6 : Int32) = nI 6 from rfl, nI_leI (by omega) (by omega)]; omega) ?_
    show mjGo _ _ 83 _ _
    refine mjGo.run 3 (pc' := 88) (F' := ([some (.ref 13), some (.ref 1), some (.int (nI 6))], [.int ((mjR (mjR (mjR (mjR I 14 (va_cpy (I 2) (I 14) 0 0 5)) 15 (va_cpy (I 3) (I 15) 0 0 5)) 16 (va_cpy (I 4) (I 16) 0 0 5)) 18 (va_cpy (I 6) (I 18) 0 0 8)) 1 5), .ref 13], mjH (mjR (mjR (mjR (mjR I 14 (va_cpy (I 2) (I 14) 0 0 5)) 15 (va_cpy (I 3) (I 15) 0 0 5)) 16 (va_cpy (I 4) (I 16) 0 0 5)) 18 (va_cpy (I 6) (I 18) 0 0 8)) (cpP X 17 5 6))) (fun _ => rfl) ?_
    refine mjGo.run 0 (pc' := 88) (F' := ([some (.ref 13), some (.ref 1), some (.int (nI 6))], [.int ((mjR (mjR (mjR (mjR I 14 (va_cpy (I 2) (I 14) 0 0 5)) 15 (va_cpy (I 3) (I 15) 0 0 5)) 16 (va_cpy (I 4) (I 16) 0 0 5)) 18 (va_cpy (I 6) (I 18) 0 0 8)) 1 5), .ref 13], mjH (mjR (mjR (mjR (mjR I 14 (va_cpy (I 2) (I 14) 0 0 5)) 15 (va_cpy (I 3) (I 15) 0 0 5)) 16 (va_cpy (I 4) (I 16) 0 0 5)) 18 (va_cpy (I 6) (I 18) 0 0 8)) (cpP X 17 5 6))) (fun _ => rfl) ?_
    rw [show ((mjR (mjR (mjR (mjR I 14 (va_cpy (I 2) (I 14) 0 0 5)) 15 (va_cpy (I 3) (I 15) 0 0 5)) 16 (va_cpy (I 4) (I 16) 0 0 5)) 18 (va_cpy (I 6) (I 18) 0 0 8)) 1 5) = (I 1 5) from rfl]
    refine mjGo.run 4 (pc' := 96) (F' := ([some (.ref 13), some (.ref 1), some (.int (nI 6))], [.int ((mjR (mjR (mjR (mjR I 14 (va_cpy (I 2) (I 14) 0 0 5)) 15 (va_cpy (I 3) (I 15) 0 0 5)) 16 (va_cpy (I 4) (I 16) 0 0 5)) 18 (va_cpy (I 6) (I 18) 0 0 8)) 1 6), .ref 13], mjH (mjU (mjR (mjR (mjR (mjR I 14 (va_cpy (I 2) (I 14) 0 0 5)) 15 (va_cpy (I 3) (I 15) 0 0 5)) 16 (va_cpy (I 4) (I 16) 0 0 5)) 18 (va_cpy (I 6) (I 18) 0 0 8)) 13 5 (I 1 5)) (cpP X 17 5 6))) (fun _ => rfl) ?_
    refine mjGo.run 0 (pc' := 96) (F' := ([some (.ref 13), some (.ref 1), some (.int (nI 6))], [.int ((mjR (mjR (mjR (mjR I 14 (va_cpy (I 2) (I 14) 0 0 5)) 15 (va_cpy (I 3) (I 15) 0 0 5)) 16 (va_cpy (I 4) (I 16) 0 0 5)) 18 (va_cpy (I 6) (I 18) 0 0 8)) 1 6), .ref 13], mjH (mjU (mjR (mjR (mjR (mjR I 14 (va_cpy (I 2) (I 14) 0 0 5)) 15 (va_cpy (I 3) (I 15) 0 0 5)) 16 (va_cpy (I 4) (I 16) 0 0 5)) 18 (va_cpy (I 6) (I 18) 0 0 8)) 13 5 (I 1 5)) (cpP X 17 5 6))) (fun _ => rfl) ?_
    rw [show ((mjR (mjR (mjR (mjR I 14 (va_cpy (I 2) (I 14) 0 0 5)) 15 (va_cpy (I 3) (I 15) 0 0 5)) 16 (va_cpy (I 4) (I 16) 0 0 5)) 18 (va_cpy (I 6) (I 18) 0 0 8)) 1 6) = (I 1 6) from rfl]
    refine mjGo.run 4 (pc' := 104) (F' := ([some (.ref 13), some (.ref 1), some (.int (nI 6))], [.int ((mjR (mjR (mjR (mjR I 14 (va_cpy (I 2) (I 14) 0 0 5)) 15 (va_cpy (I 3) (I 15) 0 0 5)) 16 (va_cpy (I 4) (I 16) 0 0 5)) 18 (va_cpy (I 6) (I 18) 0 0 8)) 1 7), .ref 13], mjH (mjU (mjU (mjR (mjR (mjR (mjR I 14 (va_cpy (I 2) (I 14) 0 0 5)) 15 (va_cpy (I 3) (I 15) 0 0 5)) 16 (va_cpy (I 4) (I 16) 0 0 5)) 18 (va_cpy (I 6) (I 18) 0 0 8)) 13 5 (I 1 5)) 13 6 (I 1 6)) (cpP X 17 5 6))) (fun _ => rfl) ?_
    refine mjGo.run 0 (pc' := 104) (F' := ([some (.ref 13), some (.ref 1), some (.int (nI 6))], [.int ((mjR (mjR (mjR (mjR I 14 (va_cpy (I 2) (I 14) 0 0 5)) 15 (va_cpy (I 3) (I 15) 0 0 5)) 16 (va_cpy (I 4) (I 16) 0 0 5)) 18 (va_cpy (I 6) (I 18) 0 0 8)) 1 7), .ref 13], mjH (mjU (mjU (mjR (mjR (mjR (mjR I 14 (va_cpy (I 2) (I 14) 0 0 5)) 15 (va_cpy (I 3) (I 15) 0 0 5)) 16 (va_cpy (I 4) (I 16) 0 0 5)) 18 (va_cpy (I 6) (I 18) 0 0 8)) 13 5 (I 1 5)) 13 6 (I 1 6)) (cpP X 17 5 6))) (fun _ => rfl) ?_
    rw [show ((mjR (mjR (mjR (mjR I 14 (va_cpy (I 2) (I 14) 0 0 5)) 15 (va_cpy (I 3) (I 15) 0 0 5)) 16 (va_cpy (I 4) (I 16) 0 0 5)) 18 (va_cpy (I 6) (I 18) 0 0 8)) 1 7) = (I 1 7) from rfl]
    refine mjGo.run 4 (pc' := 112) (F' := ([some (.ref 13), some (.ref 1), some (.int (nI 6))], [.int ((mjR (mjR (mjR (mjR I 14 (va_cpy (I 2) (I 14) 0 0 5)) 15 (va_cpy (I 3) (I 15) 0 0 5)) 16 (va_cpy (I 4) (I 16) 0 0 5)) 18 (va_cpy (I 6) (I 18) 0 0 8)) 1 8), .ref 13], mjH (mjU (mjU (mjU (mjR (mjR (mjR (mjR I 14 (va_cpy (I 2) (I 14) 0 0 5)) 15 (va_cpy (I 3) (I 15) 0 0 5)) 16 (va_cpy (I 4) (I 16) 0 0 5)) 18 (va_cpy (I 6) (I 18) 0 0 8)) 13 5 (I 1 5)) 13 6 (I 1 6)) 13 7 (I 1 7)) (cpP X 17 5 6))) (fun _ => rfl) ?_
    refine mjGo.run 0 (pc' := 112) (F' := ([some (.ref 13), some (.ref 1), some (.int (nI 6))], [.int ((mjR (mjR (mjR (mjR I 14 (va_cpy (I 2) (I 14) 0 0 5)) 15 (va_cpy (I 3) (I 15) 0 0 5)) 16 (va_cpy (I 4) (I 16) 0 0 5)) 18 (va_cpy (I 6) (I 18) 0 0 8)) 1 8), .ref 13], mjH (mjU (mjU (mjU (mjR (mjR (mjR (mjR I 14 (va_cpy (I 2) (I 14) 0 0 5)) 15 (va_cpy (I 3) (I 15) 0 0 5)) 16 (va_cpy (I 4) (I 16) 0 0 5)) 18 (va_cpy (I 6) (I 18) 0 0 8)) 13 5 (I 1 5)) 13 6 (I 1 6)) 13 7 (I 1 7)) (cpP X 17 5 6))) (fun _ => rfl) ?_
    rw [show ((mjR (mjR (mjR (mjR I 14 (va_cpy (I 2) (I 14) 0 0 5)) 15 (va_cpy (I 3) (I 15) 0 0 5)) 16 (va_cpy (I 4) (I 16) 0 0 5)) 18 (va_cpy (I 6) (I 18) 0 0 8)) 1 8) = (I 1 8) from rfl]
    exact mjGo.ret 2 (fun _ => rfl) rfl
  | succ k ih =>
    intro j hj
    rcases hA j (by omega) with hP | ⟨a, kd, hP, hK⟩
    · refine mjGo.run 2 (pc' := 62) (F' := ([some (.ref 13), some (.ref 1), some (.int (nI j))], [.int 6, .int (nI j)], mjH (mjR (mjR (mjR (mjR I 14 (va_cpy (I 2) (I 14) 0 0 5)) 15 (va_cpy (I 3) (I 15) 0 0 5)) 16 (va_cpy (I 4) (I 16) 0 0 5)) 18 (va_cpy (I 6) (I 18) 0 0 8)) (cpP X 17 5 j))) (fun _ => rfl) ?_
      refine mjGo.run 1 (pc' := (bif decide (6 ≤ (nI j)) then 83 else 65)) (F' := ([some (.ref 13), some (.ref 1), some (.int (nI j))], [], mjH (mjR (mjR (mjR (mjR I 14 (va_cpy (I 2) (I 14) 0 0 5)) 15 (va_cpy (I 3) (I 15) 0 0 5)) 16 (va_cpy (I 4) (I 16) 0 0 5)) 18 (va_cpy (I 6) (I 18) 0 0 8)) (cpP X 17 5 j))) (fun _ => rfl) ?_
      refine mjGo.brF (show ¬ 6 ≤ (nI j) by rw [show (6 : Int32) = nI 6 from rfl, nI_leI (by omega) (by omega)]; omega) ?_
      show mjGo _ _ 65 _ _
      refine mjGo.run 6 (pc' := 75) (F' := ([some (.ref 13), some (.ref 1), some (.int (nI j))], [.int (nI j), .ref 5, .int (nI j), .ref 17], mjH (mjR (mjR (mjR (mjR I 14 (va_cpy (I 2) (I 14) 0 0 5)) 15 (va_cpy (I 3) (I 15) 0 0 5)) 16 (va_cpy (I 4) (I 16) 0 0 5)) 18 (va_cpy (I 6) (I 18) 0 0 8)) (cpP X 17 5 j))) (fun _ => rfl) ?_
      refine mjGo.op (pc' := 76) (F' := ([some (.ref 13), some (.ref 1), some (.int (nI j))], [.null, .int (nI j), .ref 17], mjH (mjR (mjR (mjR (mjR I 14 (va_cpy (I 2) (I 14) 0 0 5)) 15 (va_cpy (I 3) (I 15) 0 0 5)) 16 (va_cpy (I 4) (I 16) 0 0 5)) 18 (va_cpy (I 6) (I 18) 0 0 8)) (cpP X 17 5 j))) (o := mjaald 14 76) rfl (fun _ => aaldN_at (n := 6) (by omega) (by omega) rfl rfl ((cpP_r (X := X) (k1 := 17) (k0 := 5) (n := j) (k := 5) (j := j) (by decide)).trans hP)) ?_
      refine mjGo.op (pc' := 77) (F' := ([some (.ref 13), some (.ref 1), some (.int (nI j))], [], mjH (mjR (mjR (mjR (mjR I 14 (va_cpy (I 2) (I 14) 0 0 5)) 15 (va_cpy (I 3) (I 15) 0 0 5)) 16 (va_cpy (I 4) (I 16) 0 0 5)) 18 (va_cpy (I 6) (I 18) 0 0 8)) (stO (cpP X 17 5 j) 17 j none))) (o := mjaast 14 [0, 1, 2, 4, 5, 7, 8, 9] 77) rfl (fun _ => aastN_op (n := 6) (by omega) (by omega) rfl rfl rfl) ?_
      refine mjGo.run 2 (pc' := 59) (F' := ([some (.ref 13), some (.ref 1), some (.int ((nI j) + 1))], [], mjH (mjR (mjR (mjR (mjR I 14 (va_cpy (I 2) (I 14) 0 0 5)) 15 (va_cpy (I 3) (I 15) 0 0 5)) 16 (va_cpy (I 4) (I 16) 0 0 5)) 18 (va_cpy (I 6) (I 18) 0 0 8)) (stO (cpP X 17 5 j) 17 j none))) (fun _ => rfl) ?_
      have k9 := ih (j + 1) (by omega)
      rw [← cpP_s hP, ← nI_1] at k9
      exact k9
    · refine mjGo.run 2 (pc' := 62) (F' := ([some (.ref 13), some (.ref 1), some (.int (nI j))], [.int 6, .int (nI j)], mjH (mjR (mjR (mjR (mjR I 14 (va_cpy (I 2) (I 14) 0 0 5)) 15 (va_cpy (I 3) (I 15) 0 0 5)) 16 (va_cpy (I 4) (I 16) 0 0 5)) 18 (va_cpy (I 6) (I 18) 0 0 8)) (cpP X 17 5 j))) (fun _ => rfl) ?_
      refine mjGo.run 1 (pc' := (bif decide (6 ≤ (nI j)) then 83 else 65)) (F' := ([some (.ref 13), some (.ref 1), some (.int (nI j))], [], mjH (mjR (mjR (mjR (mjR I 14 (va_cpy (I 2) (I 14) 0 0 5)) 15 (va_cpy (I 3) (I 15) 0 0 5)) 16 (va_cpy (I 4) (I 16) 0 0 5)) 18 (va_cpy (I 6) (I 18) 0 0 8)) (cpP X 17 5 j))) (fun _ => rfl) ?_
      refine mjGo.brF (show ¬ 6 ≤ (nI j) by rw [show (6 : Int32) = nI 6 from rfl, nI_leI (by omega) (by omega)]; omega) ?_
      show mjGo _ _ 65 _ _
      refine mjGo.run 6 (pc' := 75) (F' := ([some (.ref 13), some (.ref 1), some (.int (nI j))], [.int (nI j), .ref 5, .int (nI j), .ref 17], mjH (mjR (mjR (mjR (mjR I 14 (va_cpy (I 2) (I 14) 0 0 5)) 15 (va_cpy (I 3) (I 15) 0 0 5)) 16 (va_cpy (I 4) (I 16) 0 0 5)) 18 (va_cpy (I 6) (I 18) 0 0 8)) (cpP X 17 5 j))) (fun _ => rfl) ?_
      refine mjGo.op (pc' := 76) (F' := ([some (.ref 13), some (.ref 1), some (.int (nI j))], [.ref a, .int (nI j), .ref 17], mjH (mjR (mjR (mjR (mjR I 14 (va_cpy (I 2) (I 14) 0 0 5)) 15 (va_cpy (I 3) (I 15) 0 0 5)) 16 (va_cpy (I 4) (I 16) 0 0 5)) 18 (va_cpy (I 6) (I 18) 0 0 8)) (cpP X 17 5 j))) (o := mjaald 14 76) rfl (fun _ => aald_at (n := 6) (by omega) (by omega) rfl rfl ((cpP_r (X := X) (k1 := 17) (k0 := 5) (n := j) (k := 5) (j := j) (by decide)).trans hP)) ?_
      refine mjGo.op (pc' := 77) (F' := ([some (.ref 13), some (.ref 1), some (.int (nI j))], [], mjH (mjR (mjR (mjR (mjR I 14 (va_cpy (I 2) (I 14) 0 0 5)) 15 (va_cpy (I 3) (I 15) 0 0 5)) 16 (va_cpy (I 4) (I 16) 0 0 5)) 18 (va_cpy (I 6) (I 18) 0 0 8)) (stO (cpP X 17 5 j) 17 j (some a)))) (o := mjaast 14 [0, 1, 2, 4, 5, 7, 8, 9] 77) rfl (fun _ => aast_op (n := 6) (X := cpP X 17 5 j) (by omega) (by omega) rfl rfl rfl hK) ?_
      refine mjGo.run 2 (pc' := 59) (F' := ([some (.ref 13), some (.ref 1), some (.int ((nI j) + 1))], [], mjH (mjR (mjR (mjR (mjR I 14 (va_cpy (I 2) (I 14) 0 0 5)) 15 (va_cpy (I 3) (I 15) 0 0 5)) 16 (va_cpy (I 4) (I 16) 0 0 5)) 18 (va_cpy (I 6) (I 18) 0 0 8)) (stO (cpP X 17 5 j) 17 j (some a)))) (fun _ => rfl) ?_
      have k9 := ih (j + 1) (by omega)
      rw [← cpP_s hP, ← nI_1] at k9
      exact k9
theorem c_bc13_1 (d : Nat) {I : Nat → Nat → Int32} {X : MX} (hA : ∀ i, i < 6 → X.1 5 i = none ∨ ∃ a kd, X.1 5 i = some a ∧ lkK X a kd) : mjEv d nyX10_become [.ref 13, .ref 1] (mjH I X) (.inl none) (mjH (bcI13_1 I) (cpP X 17 5 6)) := by
  refine mjEv.of ?_
  show mjGo d nyX10_become 0 ([some (.ref 13), some (.ref 1), none], [], mjH I X) _
  refine mjGo.run 7 (pc' := 11) (F' := ([some (.ref 13), some (.ref 1), none], [.int 5, .int 0, .ref 14, .int 0, .ref 2], mjH I X)) (fun _ => rfl) ?_
  refine mjGo.op (pc' := 14) (F' := ([some (.ref 13), some (.ref 1), none], [], mjH (mjR I 14 (va_cpy (I 2) (I 14) 0 0 5)) X)) (o := mjcopy 14) rfl (fun _ => copy_op (I := I) (n0 := 5) (n1 := 5) (s := 0) (t := 0) (m := 5) rfl rfl rfl rfl (by decide) (by decide) (by decide) (by decide) rfl) ?_
  refine mjGo.run 7 (pc' := 25) (F' := ([some (.ref 13), some (.ref 1), none], [.int 5, .int 0, .ref 15, .int 0, .ref 3], mjH (mjR I 14 (va_cpy (I 2) (I 14) 0 0 5)) X)) (fun _ => rfl) ?_
  refine mjGo.op (pc' := 28) (F' := ([some (.ref 13), some (.ref 1), none], [], mjH (mjR (mjR I 14 (va_cpy (I 2) (I 14) 0 0 5)) 15 (va_cpy (I 3) (I 15) 0 0 5)) X)) (o := mjcopy 28) rfl (fun _ => copy_op (I := (mjR I 14 (va_cpy (I 2) (I 14) 0 0 5))) (n0 := 5) (n1 := 5) (s := 0) (t := 0) (m := 5) rfl rfl rfl rfl (by decide) (by decide) (by decide) (by decide) rfl) ?_
  refine mjGo.run 7 (pc' := 39) (F' := ([some (.ref 13), some (.ref 1), none], [.int 5, .int 0, .ref 16, .int 0, .ref 4], mjH (mjR (mjR I 14 (va_cpy (I 2) (I 14) 0 0 5)) 15 (va_cpy (I 3) (I 15) 0 0 5)) X)) (fun _ => rfl) ?_
  refine mjGo.op (pc' := 42) (F' := ([some (.ref 13), some (.ref 1), none], [], mjH (mjR (mjR (mjR I 14 (va_cpy (I 2) (I 14) 0 0 5)) 15 (va_cpy (I 3) (I 15) 0 0 5)) 16 (va_cpy (I 4) (I 16) 0 0 5)) X)) (o := mjcopy 42) rfl (fun _ => copy_op (I := (mjR (mjR I 14 (va_cpy (I 2) (I 14) 0 0 5)) 15 (va_cpy (I 3) (I 15) 0 0 5))) (n0 := 5) (n1 := 5) (s := 0) (t := 0) (m := 5) rfl rfl rfl rfl (by decide) (by decide) (by decide) (by decide) rfl) ?_
  refine mjGo.run 7 (pc' := 54) (F' := ([some (.ref 13), some (.ref 1), none], [.int 8, .int 0, .ref 18, .int 0, .ref 6], mjH (mjR (mjR (mjR I 14 (va_cpy (I 2) (I 14) 0 0 5)) 15 (va_cpy (I 3) (I 15) 0 0 5)) 16 (va_cpy (I 4) (I 16) 0 0 5)) X)) (fun _ => rfl) ?_
  refine mjGo.op (pc' := 57) (F' := ([some (.ref 13), some (.ref 1), none], [], mjH (mjR (mjR (mjR (mjR I 14 (va_cpy (I 2) (I 14) 0 0 5)) 15 (va_cpy (I 3) (I 15) 0 0 5)) 16 (va_cpy (I 4) (I 16) 0 0 5)) 18 (va_cpy (I 6) (I 18) 0 0 8)) X)) (o := mjcopy 57) rfl (fun _ => copy_op (I := (mjR (mjR (mjR I 14 (va_cpy (I 2) (I 14) 0 0 5)) 15 (va_cpy (I 3) (I 15) 0 0 5)) 16 (va_cpy (I 4) (I 16) 0 0 5))) (n0 := 8) (n1 := 8) (s := 0) (t := 0) (m := 8) rfl rfl rfl rfl (by decide) (by decide) (by decide) (by decide) rfl) ?_
  refine mjGo.run 2 (pc' := 59) (F' := ([some (.ref 13), some (.ref 1), some (.int 0)], [], mjH (mjR (mjR (mjR (mjR I 14 (va_cpy (I 2) (I 14) 0 0 5)) 15 (va_cpy (I 3) (I 15) 0 0 5)) 16 (va_cpy (I 4) (I 16) 0 0 5)) 18 (va_cpy (I 6) (I 18) 0 0 8)) X)) (fun _ => rfl) ?_
  have k9 := bc13_1_loop (d := d) (I := I) hA 6 0 (by omega)
  rw [cpP_0] at k9
  exact k9
def bcI1_13 (I : Nat → Nat → Int32) : Nat → Nat → Int32 := (mjU (mjU (mjU (mjU (mjR (mjR (mjR (mjR I 2 (va_cpy (I 14) (I 2) 0 0 5)) 3 (va_cpy (I 15) (I 3) 0 0 5)) 4 (va_cpy (I 16) (I 4) 0 0 5)) 6 (va_cpy (I 18) (I 6) 0 0 8)) 1 5 (I 13 5)) 1 6 (I 13 6)) 1 7 (I 13 7)) 1 8 (I 13 8))
theorem bc1_13_loop {d : Nat} {I : Nat → Nat → Int32} {X : MX} (hA : ∀ i, i < 6 → X.1 17 i = none ∨ ∃ a kd, X.1 17 i = some a ∧ lkK X a kd) : ∀ (k j : Nat), j + k = 6 → mjGo d nyX10_become 59 ([some (.ref 1), some (.ref 13), some (.int (nI j))], [], mjH (mjR (mjR (mjR (mjR I 2 (va_cpy (I 14) (I 2) 0 0 5)) 3 (va_cpy (I 15) (I 3) 0 0 5)) 4 (va_cpy (I 16) (I 4) 0 0 5)) 6 (va_cpy (I 18) (I 6) 0 0 8)) (cpP X 5 17 j)) (fun x => x = (.inl none, mjH (bcI1_13 I) (cpP X 5 17 6))) := by
  intro k
  induction k with
  | zero =>
    intro j hj
    have e : j = 6 := by omega
    subst e
    refine mjGo.run 2 (pc' := 62) (F' := ([some (.ref 1), some (.ref 13), some (.int (nI 6))], [.int 6, .int (nI 6)], mjH (mjR (mjR (mjR (mjR I 2 (va_cpy (I 14) (I 2) 0 0 5)) 3 (va_cpy (I 15) (I 3) 0 0 5)) 4 (va_cpy (I 16) (I 4) 0 0 5)) 6 (va_cpy (I 18) (I 6) 0 0 8)) (cpP X 5 17 6))) (fun _ => rfl) ?_
    refine mjGo.run 1 (pc' := (bif decide (6 ≤ (nI 6)) then 83 else 65)) (F' := ([some (.ref 1), some (.ref 13), some (.int (nI 6))], [], mjH (mjR (mjR (mjR (mjR I 2 (va_cpy (I 14) (I 2) 0 0 5)) 3 (va_cpy (I 15) (I 3) 0 0 5)) 4 (va_cpy (I 16) (I 4) 0 0 5)) 6 (va_cpy (I 18) (I 6) 0 0 8)) (cpP X 5 17 6))) (fun _ => rfl) ?_
    refine mjGo.brT (show 6 ≤ (nI 6) by rw [show (6 : Int32) = nI 6 from rfl, nI_leI (by omega) (by omega)]; omega) ?_
    show mjGo _ _ 83 _ _
    refine mjGo.run 3 (pc' := 88) (F' := ([some (.ref 1), some (.ref 13), some (.int (nI 6))], [.int ((mjR (mjR (mjR (mjR I 2 (va_cpy (I 14) (I 2) 0 0 5)) 3 (va_cpy (I 15) (I 3) 0 0 5)) 4 (va_cpy (I 16) (I 4) 0 0 5)) 6 (va_cpy (I 18) (I 6) 0 0 8)) 13 5), .ref 1], mjH (mjR (mjR (mjR (mjR I 2 (va_cpy (I 14) (I 2) 0 0 5)) 3 (va_cpy (I 15) (I 3) 0 0 5)) 4 (va_cpy (I 16) (I 4) 0 0 5)) 6 (va_cpy (I 18) (I 6) 0 0 8)) (cpP X 5 17 6))) (fun _ => rfl) ?_
    refine mjGo.run 0 (pc' := 88) (F' := ([some (.ref 1), some (.ref 13), some (.int (nI 6))], [.int ((mjR (mjR (mjR (mjR I 2 (va_cpy (I 14) (I 2) 0 0 5)) 3 (va_cpy (I 15) (I 3) 0 0 5)) 4 (va_cpy (I 16) (I 4) 0 0 5)) 6 (va_cpy (I 18) (I 6) 0 0 8)) 13 5), .ref 1], mjH (mjR (mjR (mjR (mjR I 2 (va_cpy (I 14) (I 2) 0 0 5)) 3 (va_cpy (I 15) (I 3) 0 0 5)) 4 (va_cpy (I 16) (I 4) 0 0 5)) 6 (va_cpy (I 18) (I 6) 0 0 8)) (cpP X 5 17 6))) (fun _ => rfl) ?_
    rw [show ((mjR (mjR (mjR (mjR I 2 (va_cpy (I 14) (I 2) 0 0 5)) 3 (va_cpy (I 15) (I 3) 0 0 5)) 4 (va_cpy (I 16) (I 4) 0 0 5)) 6 (va_cpy (I 18) (I 6) 0 0 8)) 13 5) = (I 13 5) from rfl]
    refine mjGo.run 4 (pc' := 96) (F' := ([some (.ref 1), some (.ref 13), some (.int (nI 6))], [.int ((mjR (mjR (mjR (mjR I 2 (va_cpy (I 14) (I 2) 0 0 5)) 3 (va_cpy (I 15) (I 3) 0 0 5)) 4 (va_cpy (I 16) (I 4) 0 0 5)) 6 (va_cpy (I 18) (I 6) 0 0 8)) 13 6), .ref 1], mjH (mjU (mjR (mjR (mjR (mjR I 2 (va_cpy (I 14) (I 2) 0 0 5)) 3 (va_cpy (I 15) (I 3) 0 0 5)) 4 (va_cpy (I 16) (I 4) 0 0 5)) 6 (va_cpy (I 18) (I 6) 0 0 8)) 1 5 (I 13 5)) (cpP X 5 17 6))) (fun _ => rfl) ?_
    refine mjGo.run 0 (pc' := 96) (F' := ([some (.ref 1), some (.ref 13), some (.int (nI 6))], [.int ((mjR (mjR (mjR (mjR I 2 (va_cpy (I 14) (I 2) 0 0 5)) 3 (va_cpy (I 15) (I 3) 0 0 5)) 4 (va_cpy (I 16) (I 4) 0 0 5)) 6 (va_cpy (I 18) (I 6) 0 0 8)) 13 6), .ref 1], mjH (mjU (mjR (mjR (mjR (mjR I 2 (va_cpy (I 14) (I 2) 0 0 5)) 3 (va_cpy (I 15) (I 3) 0 0 5)) 4 (va_cpy (I 16) (I 4) 0 0 5)) 6 (va_cpy (I 18) (I 6) 0 0 8)) 1 5 (I 13 5)) (cpP X 5 17 6))) (fun _ => rfl) ?_
    rw [show ((mjR (mjR (mjR (mjR I 2 (va_cpy (I 14) (I 2) 0 0 5)) 3 (va_cpy (I 15) (I 3) 0 0 5)) 4 (va_cpy (I 16) (I 4) 0 0 5)) 6 (va_cpy (I 18) (I 6) 0 0 8)) 13 6) = (I 13 6) from rfl]
    refine mjGo.run 4 (pc' := 104) (F' := ([some (.ref 1), some (.ref 13), some (.int (nI 6))], [.int ((mjR (mjR (mjR (mjR I 2 (va_cpy (I 14) (I 2) 0 0 5)) 3 (va_cpy (I 15) (I 3) 0 0 5)) 4 (va_cpy (I 16) (I 4) 0 0 5)) 6 (va_cpy (I 18) (I 6) 0 0 8)) 13 7), .ref 1], mjH (mjU (mjU (mjR (mjR (mjR (mjR I 2 (va_cpy (I 14) (I 2) 0 0 5)) 3 (va_cpy (I 15) (I 3) 0 0 5)) 4 (va_cpy (I 16) (I 4) 0 0 5)) 6 (va_cpy (I 18) (I 6) 0 0 8)) 1 5 (I 13 5)) 1 6 (I 13 6)) (cpP X 5 17 6))) (fun _ => rfl) ?_
    refine mjGo.run 0 (pc' := 104) (F' := ([some (.ref 1), some (.ref 13), some (.int (nI 6))], [.int ((mjR (mjR (mjR (mjR I 2 (va_cpy (I 14) (I 2) 0 0 5)) 3 (va_cpy (I 15) (I 3) 0 0 5)) 4 (va_cpy (I 16) (I 4) 0 0 5)) 6 (va_cpy (I 18) (I 6) 0 0 8)) 13 7), .ref 1], mjH (mjU (mjU (mjR (mjR (mjR (mjR I 2 (va_cpy (I 14) (I 2) 0 0 5)) 3 (va_cpy (I 15) (I 3) 0 0 5)) 4 (va_cpy (I 16) (I 4) 0 0 5)) 6 (va_cpy (I 18) (I 6) 0 0 8)) 1 5 (I 13 5)) 1 6 (I 13 6)) (cpP X 5 17 6))) (fun _ => rfl) ?_
    rw [show ((mjR (mjR (mjR (mjR I 2 (va_cpy (I 14) (I 2) 0 0 5)) 3 (va_cpy (I 15) (I 3) 0 0 5)) 4 (va_cpy (I 16) (I 4) 0 0 5)) 6 (va_cpy (I 18) (I 6) 0 0 8)) 13 7) = (I 13 7) from rfl]
    refine mjGo.run 4 (pc' := 112) (F' := ([some (.ref 1), some (.ref 13), some (.int (nI 6))], [.int ((mjR (mjR (mjR (mjR I 2 (va_cpy (I 14) (I 2) 0 0 5)) 3 (va_cpy (I 15) (I 3) 0 0 5)) 4 (va_cpy (I 16) (I 4) 0 0 5)) 6 (va_cpy (I 18) (I 6) 0 0 8)) 13 8), .ref 1], mjH (mjU (mjU (mjU (mjR (mjR (mjR (mjR I 2 (va_cpy (I 14) (I 2) 0 0 5)) 3 (va_cpy (I 15) (I 3) 0 0 5)) 4 (va_cpy (I 16) (I 4) 0 0 5)) 6 (va_cpy (I 18) (I 6) 0 0 8)) 1 5 (I 13 5)) 1 6 (I 13 6)) 1 7 (I 13 7)) (cpP X 5 17 6))) (fun _ => rfl) ?_
    refine mjGo.run 0 (pc' := 112) (F' := ([some (.ref 1), some (.ref 13), some (.int (nI 6))], [.int ((mjR (mjR (mjR (mjR I 2 (va_cpy (I 14) (I 2) 0 0 5)) 3 (va_cpy (I 15) (I 3) 0 0 5)) 4 (va_cpy (I 16) (I 4) 0 0 5)) 6 (va_cpy (I 18) (I 6) 0 0 8)) 13 8), .ref 1], mjH (mjU (mjU (mjU (mjR (mjR (mjR (mjR I 2 (va_cpy (I 14) (I 2) 0 0 5)) 3 (va_cpy (I 15) (I 3) 0 0 5)) 4 (va_cpy (I 16) (I 4) 0 0 5)) 6 (va_cpy (I 18) (I 6) 0 0 8)) 1 5 (I 13 5)) 1 6 (I 13 6)) 1 7 (I 13 7)) (cpP X 5 17 6))) (fun _ => rfl) ?_
    rw [show ((mjR (mjR (mjR (mjR I 2 (va_cpy (I 14) (I 2) 0 0 5)) 3 (va_cpy (I 15) (I 3) 0 0 5)) 4 (va_cpy (I 16) (I 4) 0 0 5)) 6 (va_cpy (I 18) (I 6) 0 0 8)) 13 8) = (I 13 8) from rfl]
    exact mjGo.ret 2 (fun _ => rfl) rfl
  | succ k ih =>
    intro j hj
    rcases hA j (by omega) with hP | ⟨a, kd, hP, hK⟩
    · refine mjGo.run 2 (pc' := 62) (F' := ([some (.ref 1), some (.ref 13), some (.int (nI j))], [.int 6, .int (nI j)], mjH (mjR (mjR (mjR (mjR I 2 (va_cpy (I 14) (I 2) 0 0 5)) 3 (va_cpy (I 15) (I 3) 0 0 5)) 4 (va_cpy (I 16) (I 4) 0 0 5)) 6 (va_cpy (I 18) (I 6) 0 0 8)) (cpP X 5 17 j))) (fun _ => rfl) ?_
      refine mjGo.run 1 (pc' := (bif decide (6 ≤ (nI j)) then 83 else 65)) (F' := ([some (.ref 1), some (.ref 13), some (.int (nI j))], [], mjH (mjR (mjR (mjR (mjR I 2 (va_cpy (I 14) (I 2) 0 0 5)) 3 (va_cpy (I 15) (I 3) 0 0 5)) 4 (va_cpy (I 16) (I 4) 0 0 5)) 6 (va_cpy (I 18) (I 6) 0 0 8)) (cpP X 5 17 j))) (fun _ => rfl) ?_
      refine mjGo.brF (show ¬ 6 ≤ (nI j) by rw [show (6 : Int32) = nI 6 from rfl, nI_leI (by omega) (by omega)]; omega) ?_
      show mjGo _ _ 65 _ _
      refine mjGo.run 6 (pc' := 75) (F' := ([some (.ref 1), some (.ref 13), some (.int (nI j))], [.int (nI j), .ref 17, .int (nI j), .ref 5], mjH (mjR (mjR (mjR (mjR I 2 (va_cpy (I 14) (I 2) 0 0 5)) 3 (va_cpy (I 15) (I 3) 0 0 5)) 4 (va_cpy (I 16) (I 4) 0 0 5)) 6 (va_cpy (I 18) (I 6) 0 0 8)) (cpP X 5 17 j))) (fun _ => rfl) ?_
      refine mjGo.op (pc' := 76) (F' := ([some (.ref 1), some (.ref 13), some (.int (nI j))], [.null, .int (nI j), .ref 5], mjH (mjR (mjR (mjR (mjR I 2 (va_cpy (I 14) (I 2) 0 0 5)) 3 (va_cpy (I 15) (I 3) 0 0 5)) 4 (va_cpy (I 16) (I 4) 0 0 5)) 6 (va_cpy (I 18) (I 6) 0 0 8)) (cpP X 5 17 j))) (o := mjaald 14 76) rfl (fun _ => aaldN_at (n := 6) (by omega) (by omega) rfl rfl ((cpP_r (X := X) (k1 := 5) (k0 := 17) (n := j) (k := 17) (j := j) (by decide)).trans hP)) ?_
      refine mjGo.op (pc' := 77) (F' := ([some (.ref 1), some (.ref 13), some (.int (nI j))], [], mjH (mjR (mjR (mjR (mjR I 2 (va_cpy (I 14) (I 2) 0 0 5)) 3 (va_cpy (I 15) (I 3) 0 0 5)) 4 (va_cpy (I 16) (I 4) 0 0 5)) 6 (va_cpy (I 18) (I 6) 0 0 8)) (stO (cpP X 5 17 j) 5 j none))) (o := mjaast 14 [0, 1, 2, 4, 5, 7, 8, 9] 77) rfl (fun _ => aastN_op (n := 6) (by omega) (by omega) rfl rfl rfl) ?_
      refine mjGo.run 2 (pc' := 59) (F' := ([some (.ref 1), some (.ref 13), some (.int ((nI j) + 1))], [], mjH (mjR (mjR (mjR (mjR I 2 (va_cpy (I 14) (I 2) 0 0 5)) 3 (va_cpy (I 15) (I 3) 0 0 5)) 4 (va_cpy (I 16) (I 4) 0 0 5)) 6 (va_cpy (I 18) (I 6) 0 0 8)) (stO (cpP X 5 17 j) 5 j none))) (fun _ => rfl) ?_
      have k9 := ih (j + 1) (by omega)
      rw [← cpP_s hP, ← nI_1] at k9
      exact k9
    · refine mjGo.run 2 (pc' := 62) (F' := ([some (.ref 1), some (.ref 13), some (.int (nI j))], [.int 6, .int (nI j)], mjH (mjR (mjR (mjR (mjR I 2 (va_cpy (I 14) (I 2) 0 0 5)) 3 (va_cpy (I 15) (I 3) 0 0 5)) 4 (va_cpy (I 16) (I 4) 0 0 5)) 6 (va_cpy (I 18) (I 6) 0 0 8)) (cpP X 5 17 j))) (fun _ => rfl) ?_
      refine mjGo.run 1 (pc' := (bif decide (6 ≤ (nI j)) then 83 else 65)) (F' := ([some (.ref 1), some (.ref 13), some (.int (nI j))], [], mjH (mjR (mjR (mjR (mjR I 2 (va_cpy (I 14) (I 2) 0 0 5)) 3 (va_cpy (I 15) (I 3) 0 0 5)) 4 (va_cpy (I 16) (I 4) 0 0 5)) 6 (va_cpy (I 18) (I 6) 0 0 8)) (cpP X 5 17 j))) (fun _ => rfl) ?_
      refine mjGo.brF (show ¬ 6 ≤ (nI j) by rw [show (6 : Int32) = nI 6 from rfl, nI_leI (by omega) (by omega)]; omega) ?_
      show mjGo _ _ 65 _ _
      refine mjGo.run 6 (pc' := 75) (F' := ([some (.ref 1), some (.ref 13), some (.int (nI j))], [.int (nI j), .ref 17, .int (nI j), .ref 5], mjH (mjR (mjR (mjR (mjR I 2 (va_cpy (I 14) (I 2) 0 0 5)) 3 (va_cpy (I 15) (I 3) 0 0 5)) 4 (va_cpy (I 16) (I 4) 0 0 5)) 6 (va_cpy (I 18) (I 6) 0 0 8)) (cpP X 5 17 j))) (fun _ => rfl) ?_
      refine mjGo.op (pc' := 76) (F' := ([some (.ref 1), some (.ref 13), some (.int (nI j))], [.ref a, .int (nI j), .ref 5], mjH (mjR (mjR (mjR (mjR I 2 (va_cpy (I 14) (I 2) 0 0 5)) 3 (va_cpy (I 15) (I 3) 0 0 5)) 4 (va_cpy (I 16) (I 4) 0 0 5)) 6 (va_cpy (I 18) (I 6) 0 0 8)) (cpP X 5 17 j))) (o := mjaald 14 76) rfl (fun _ => aald_at (n := 6) (by omega) (by omega) rfl rfl ((cpP_r (X := X) (k1 := 5) (k0 := 17) (n := j) (k := 17) (j := j) (by decide)).trans hP)) ?_
      refine mjGo.op (pc' := 77) (F' := ([some (.ref 1), some (.ref 13), some (.int (nI j))], [], mjH (mjR (mjR (mjR (mjR I 2 (va_cpy (I 14) (I 2) 0 0 5)) 3 (va_cpy (I 15) (I 3) 0 0 5)) 4 (va_cpy (I 16) (I 4) 0 0 5)) 6 (va_cpy (I 18) (I 6) 0 0 8)) (stO (cpP X 5 17 j) 5 j (some a)))) (o := mjaast 14 [0, 1, 2, 4, 5, 7, 8, 9] 77) rfl (fun _ => aast_op (n := 6) (X := cpP X 5 17 j) (by omega) (by omega) rfl rfl rfl hK) ?_
      refine mjGo.run 2 (pc' := 59) (F' := ([some (.ref 1), some (.ref 13), some (.int ((nI j) + 1))], [], mjH (mjR (mjR (mjR (mjR I 2 (va_cpy (I 14) (I 2) 0 0 5)) 3 (va_cpy (I 15) (I 3) 0 0 5)) 4 (va_cpy (I 16) (I 4) 0 0 5)) 6 (va_cpy (I 18) (I 6) 0 0 8)) (stO (cpP X 5 17 j) 5 j (some a)))) (fun _ => rfl) ?_
      have k9 := ih (j + 1) (by omega)
      rw [← cpP_s hP, ← nI_1] at k9
      exact k9
theorem c_bc1_13 (d : Nat) {I : Nat → Nat → Int32} {X : MX} (hA : ∀ i, i < 6 → X.1 17 i = none ∨ ∃ a kd, X.1 17 i = some a ∧ lkK X a kd) : mjEv d nyX10_become [.ref 1, .ref 13] (mjH I X) (.inl none) (mjH (bcI1_13 I) (cpP X 5 17 6)) := by
  refine mjEv.of ?_
  show mjGo d nyX10_become 0 ([some (.ref 1), some (.ref 13), none], [], mjH I X) _
  refine mjGo.run 7 (pc' := 11) (F' := ([some (.ref 1), some (.ref 13), none], [.int 5, .int 0, .ref 2, .int 0, .ref 14], mjH I X)) (fun _ => rfl) ?_
  refine mjGo.op (pc' := 14) (F' := ([some (.ref 1), some (.ref 13), none], [], mjH (mjR I 2 (va_cpy (I 14) (I 2) 0 0 5)) X)) (o := mjcopy 14) rfl (fun _ => copy_op (I := I) (n0 := 5) (n1 := 5) (s := 0) (t := 0) (m := 5) rfl rfl rfl rfl (by decide) (by decide) (by decide) (by decide) rfl) ?_
  refine mjGo.run 7 (pc' := 25) (F' := ([some (.ref 1), some (.ref 13), none], [.int 5, .int 0, .ref 3, .int 0, .ref 15], mjH (mjR I 2 (va_cpy (I 14) (I 2) 0 0 5)) X)) (fun _ => rfl) ?_
  refine mjGo.op (pc' := 28) (F' := ([some (.ref 1), some (.ref 13), none], [], mjH (mjR (mjR I 2 (va_cpy (I 14) (I 2) 0 0 5)) 3 (va_cpy (I 15) (I 3) 0 0 5)) X)) (o := mjcopy 28) rfl (fun _ => copy_op (I := (mjR I 2 (va_cpy (I 14) (I 2) 0 0 5))) (n0 := 5) (n1 := 5) (s := 0) (t := 0) (m := 5) rfl rfl rfl rfl (by decide) (by decide) (by decide) (by decide) rfl) ?_
  refine mjGo.run 7 (pc' := 39) (F' := ([some (.ref 1), some (.ref 13), none], [.int 5, .int 0, .ref 4, .int 0, .ref 16], mjH (mjR (mjR I 2 (va_cpy (I 14) (I 2) 0 0 5)) 3 (va_cpy (I 15) (I 3) 0 0 5)) X)) (fun _ => rfl) ?_
  refine mjGo.op (pc' := 42) (F' := ([some (.ref 1), some (.ref 13), none], [], mjH (mjR (mjR (mjR I 2 (va_cpy (I 14) (I 2) 0 0 5)) 3 (va_cpy (I 15) (I 3) 0 0 5)) 4 (va_cpy (I 16) (I 4) 0 0 5)) X)) (o := mjcopy 42) rfl (fun _ => copy_op (I := (mjR (mjR I 2 (va_cpy (I 14) (I 2) 0 0 5)) 3 (va_cpy (I 15) (I 3) 0 0 5))) (n0 := 5) (n1 := 5) (s := 0) (t := 0) (m := 5) rfl rfl rfl rfl (by decide) (by decide) (by decide) (by decide) rfl) ?_
  refine mjGo.run 7 (pc' := 54) (F' := ([some (.ref 1), some (.ref 13), none], [.int 8, .int 0, .ref 6, .int 0, .ref 18], mjH (mjR (mjR (mjR I 2 (va_cpy (I 14) (I 2) 0 0 5)) 3 (va_cpy (I 15) (I 3) 0 0 5)) 4 (va_cpy (I 16) (I 4) 0 0 5)) X)) (fun _ => rfl) ?_
  refine mjGo.op (pc' := 57) (F' := ([some (.ref 1), some (.ref 13), none], [], mjH (mjR (mjR (mjR (mjR I 2 (va_cpy (I 14) (I 2) 0 0 5)) 3 (va_cpy (I 15) (I 3) 0 0 5)) 4 (va_cpy (I 16) (I 4) 0 0 5)) 6 (va_cpy (I 18) (I 6) 0 0 8)) X)) (o := mjcopy 57) rfl (fun _ => copy_op (I := (mjR (mjR (mjR I 2 (va_cpy (I 14) (I 2) 0 0 5)) 3 (va_cpy (I 15) (I 3) 0 0 5)) 4 (va_cpy (I 16) (I 4) 0 0 5))) (n0 := 8) (n1 := 8) (s := 0) (t := 0) (m := 8) rfl rfl rfl rfl (by decide) (by decide) (by decide) (by decide) rfl) ?_
  refine mjGo.run 2 (pc' := 59) (F' := ([some (.ref 1), some (.ref 13), some (.int 0)], [], mjH (mjR (mjR (mjR (mjR I 2 (va_cpy (I 14) (I 2) 0 0 5)) 3 (va_cpy (I 15) (I 3) 0 0 5)) 4 (va_cpy (I 16) (I 4) 0 0 5)) 6 (va_cpy (I 18) (I 6) 0 0 8)) X)) (fun _ => rfl) ?_
  have k9 := bc1_13_loop (d := d) (I := I) hA 6 0 (by omega)
  rw [cpP_0] at k9
  exact k9
def bcI7_1 (I : Nat → Nat → Int32) : Nat → Nat → Int32 := (mjU (mjU (mjU (mjU (mjR (mjR (mjR (mjR I 8 (va_cpy (I 2) (I 8) 0 0 5)) 9 (va_cpy (I 3) (I 9) 0 0 5)) 10 (va_cpy (I 4) (I 10) 0 0 5)) 12 (va_cpy (I 6) (I 12) 0 0 8)) 7 5 (I 1 5)) 7 6 (I 1 6)) 7 7 (I 1 7)) 7 8 (I 1 8))
theorem bc7_1_loop {d : Nat} {I : Nat → Nat → Int32} {X : MX} (hA : ∀ i, i < 6 → X.1 5 i = none ∨ ∃ a kd, X.1 5 i = some a ∧ lkK X a kd) : ∀ (k j : Nat), j + k = 6 → mjGo d nyX10_become 59 ([some (.ref 7), some (.ref 1), some (.int (nI j))], [], mjH (mjR (mjR (mjR (mjR I 8 (va_cpy (I 2) (I 8) 0 0 5)) 9 (va_cpy (I 3) (I 9) 0 0 5)) 10 (va_cpy (I 4) (I 10) 0 0 5)) 12 (va_cpy (I 6) (I 12) 0 0 8)) (cpP X 11 5 j)) (fun x => x = (.inl none, mjH (bcI7_1 I) (cpP X 11 5 6))) := by
  intro k
  induction k with
  | zero =>
    intro j hj
    have e : j = 6 := by omega
    subst e
    refine mjGo.run 2 (pc' := 62) (F' := ([some (.ref 7), some (.ref 1), some (.int (nI 6))], [.int 6, .int (nI 6)], mjH (mjR (mjR (mjR (mjR I 8 (va_cpy (I 2) (I 8) 0 0 5)) 9 (va_cpy (I 3) (I 9) 0 0 5)) 10 (va_cpy (I 4) (I 10) 0 0 5)) 12 (va_cpy (I 6) (I 12) 0 0 8)) (cpP X 11 5 6))) (fun _ => rfl) ?_
    refine mjGo.run 1 (pc' := (bif decide (6 ≤ (nI 6)) then 83 else 65)) (F' := ([some (.ref 7), some (.ref 1), some (.int (nI 6))], [], mjH (mjR (mjR (mjR (mjR I 8 (va_cpy (I 2) (I 8) 0 0 5)) 9 (va_cpy (I 3) (I 9) 0 0 5)) 10 (va_cpy (I 4) (I 10) 0 0 5)) 12 (va_cpy (I 6) (I 12) 0 0 8)) (cpP X 11 5 6))) (fun _ => rfl) ?_
    refine mjGo.brT (show 6 ≤ (nI 6) by rw [show (6 : Int32) = nI 6 from rfl, nI_leI (by omega) (by omega)]; omega) ?_
    show mjGo _ _ 83 _ _
    refine mjGo.run 3 (pc' := 88) (F' := ([some (.ref 7), some (.ref 1), some (.int (nI 6))], [.int ((mjR (mjR (mjR (mjR I 8 (va_cpy (I 2) (I 8) 0 0 5)) 9 (va_cpy (I 3) (I 9) 0 0 5)) 10 (va_cpy (I 4) (I 10) 0 0 5)) 12 (va_cpy (I 6) (I 12) 0 0 8)) 1 5), .ref 7], mjH (mjR (mjR (mjR (mjR I 8 (va_cpy (I 2) (I 8) 0 0 5)) 9 (va_cpy (I 3) (I 9) 0 0 5)) 10 (va_cpy (I 4) (I 10) 0 0 5)) 12 (va_cpy (I 6) (I 12) 0 0 8)) (cpP X 11 5 6))) (fun _ => rfl) ?_
    refine mjGo.run 0 (pc' := 88) (F' := ([some (.ref 7), some (.ref 1), some (.int (nI 6))], [.int ((mjR (mjR (mjR (mjR I 8 (va_cpy (I 2) (I 8) 0 0 5)) 9 (va_cpy (I 3) (I 9) 0 0 5)) 10 (va_cpy (I 4) (I 10) 0 0 5)) 12 (va_cpy (I 6) (I 12) 0 0 8)) 1 5), .ref 7], mjH (mjR (mjR (mjR (mjR I 8 (va_cpy (I 2) (I 8) 0 0 5)) 9 (va_cpy (I 3) (I 9) 0 0 5)) 10 (va_cpy (I 4) (I 10) 0 0 5)) 12 (va_cpy (I 6) (I 12) 0 0 8)) (cpP X 11 5 6))) (fun _ => rfl) ?_
    rw [show ((mjR (mjR (mjR (mjR I 8 (va_cpy (I 2) (I 8) 0 0 5)) 9 (va_cpy (I 3) (I 9) 0 0 5)) 10 (va_cpy (I 4) (I 10) 0 0 5)) 12 (va_cpy (I 6) (I 12) 0 0 8)) 1 5) = (I 1 5) from rfl]
    refine mjGo.run 4 (pc' := 96) (F' := ([some (.ref 7), some (.ref 1), some (.int (nI 6))], [.int ((mjR (mjR (mjR (mjR I 8 (va_cpy (I 2) (I 8) 0 0 5)) 9 (va_cpy (I 3) (I 9) 0 0 5)) 10 (va_cpy (I 4) (I 10) 0 0 5)) 12 (va_cpy (I 6) (I 12) 0 0 8)) 1 6), .ref 7], mjH (mjU (mjR (mjR (mjR (mjR I 8 (va_cpy (I 2) (I 8) 0 0 5)) 9 (va_cpy (I 3) (I 9) 0 0 5)) 10 (va_cpy (I 4) (I 10) 0 0 5)) 12 (va_cpy (I 6) (I 12) 0 0 8)) 7 5 (I 1 5)) (cpP X 11 5 6))) (fun _ => rfl) ?_
    refine mjGo.run 0 (pc' := 96) (F' := ([some (.ref 7), some (.ref 1), some (.int (nI 6))], [.int ((mjR (mjR (mjR (mjR I 8 (va_cpy (I 2) (I 8) 0 0 5)) 9 (va_cpy (I 3) (I 9) 0 0 5)) 10 (va_cpy (I 4) (I 10) 0 0 5)) 12 (va_cpy (I 6) (I 12) 0 0 8)) 1 6), .ref 7], mjH (mjU (mjR (mjR (mjR (mjR I 8 (va_cpy (I 2) (I 8) 0 0 5)) 9 (va_cpy (I 3) (I 9) 0 0 5)) 10 (va_cpy (I 4) (I 10) 0 0 5)) 12 (va_cpy (I 6) (I 12) 0 0 8)) 7 5 (I 1 5)) (cpP X 11 5 6))) (fun _ => rfl) ?_
    rw [show ((mjR (mjR (mjR (mjR I 8 (va_cpy (I 2) (I 8) 0 0 5)) 9 (va_cpy (I 3) (I 9) 0 0 5)) 10 (va_cpy (I 4) (I 10) 0 0 5)) 12 (va_cpy (I 6) (I 12) 0 0 8)) 1 6) = (I 1 6) from rfl]
    refine mjGo.run 4 (pc' := 104) (F' := ([some (.ref 7), some (.ref 1), some (.int (nI 6))], [.int ((mjR (mjR (mjR (mjR I 8 (va_cpy (I 2) (I 8) 0 0 5)) 9 (va_cpy (I 3) (I 9) 0 0 5)) 10 (va_cpy (I 4) (I 10) 0 0 5)) 12 (va_cpy (I 6) (I 12) 0 0 8)) 1 7), .ref 7], mjH (mjU (mjU (mjR (mjR (mjR (mjR I 8 (va_cpy (I 2) (I 8) 0 0 5)) 9 (va_cpy (I 3) (I 9) 0 0 5)) 10 (va_cpy (I 4) (I 10) 0 0 5)) 12 (va_cpy (I 6) (I 12) 0 0 8)) 7 5 (I 1 5)) 7 6 (I 1 6)) (cpP X 11 5 6))) (fun _ => rfl) ?_
    refine mjGo.run 0 (pc' := 104) (F' := ([some (.ref 7), some (.ref 1), some (.int (nI 6))], [.int ((mjR (mjR (mjR (mjR I 8 (va_cpy (I 2) (I 8) 0 0 5)) 9 (va_cpy (I 3) (I 9) 0 0 5)) 10 (va_cpy (I 4) (I 10) 0 0 5)) 12 (va_cpy (I 6) (I 12) 0 0 8)) 1 7), .ref 7], mjH (mjU (mjU (mjR (mjR (mjR (mjR I 8 (va_cpy (I 2) (I 8) 0 0 5)) 9 (va_cpy (I 3) (I 9) 0 0 5)) 10 (va_cpy (I 4) (I 10) 0 0 5)) 12 (va_cpy (I 6) (I 12) 0 0 8)) 7 5 (I 1 5)) 7 6 (I 1 6)) (cpP X 11 5 6))) (fun _ => rfl) ?_
    rw [show ((mjR (mjR (mjR (mjR I 8 (va_cpy (I 2) (I 8) 0 0 5)) 9 (va_cpy (I 3) (I 9) 0 0 5)) 10 (va_cpy (I 4) (I 10) 0 0 5)) 12 (va_cpy (I 6) (I 12) 0 0 8)) 1 7) = (I 1 7) from rfl]
    refine mjGo.run 4 (pc' := 112) (F' := ([some (.ref 7), some (.ref 1), some (.int (nI 6))], [.int ((mjR (mjR (mjR (mjR I 8 (va_cpy (I 2) (I 8) 0 0 5)) 9 (va_cpy (I 3) (I 9) 0 0 5)) 10 (va_cpy (I 4) (I 10) 0 0 5)) 12 (va_cpy (I 6) (I 12) 0 0 8)) 1 8), .ref 7], mjH (mjU (mjU (mjU (mjR (mjR (mjR (mjR I 8 (va_cpy (I 2) (I 8) 0 0 5)) 9 (va_cpy (I 3) (I 9) 0 0 5)) 10 (va_cpy (I 4) (I 10) 0 0 5)) 12 (va_cpy (I 6) (I 12) 0 0 8)) 7 5 (I 1 5)) 7 6 (I 1 6)) 7 7 (I 1 7)) (cpP X 11 5 6))) (fun _ => rfl) ?_
    refine mjGo.run 0 (pc' := 112) (F' := ([some (.ref 7), some (.ref 1), some (.int (nI 6))], [.int ((mjR (mjR (mjR (mjR I 8 (va_cpy (I 2) (I 8) 0 0 5)) 9 (va_cpy (I 3) (I 9) 0 0 5)) 10 (va_cpy (I 4) (I 10) 0 0 5)) 12 (va_cpy (I 6) (I 12) 0 0 8)) 1 8), .ref 7], mjH (mjU (mjU (mjU (mjR (mjR (mjR (mjR I 8 (va_cpy (I 2) (I 8) 0 0 5)) 9 (va_cpy (I 3) (I 9) 0 0 5)) 10 (va_cpy (I 4) (I 10) 0 0 5)) 12 (va_cpy (I 6) (I 12) 0 0 8)) 7 5 (I 1 5)) 7 6 (I 1 6)) 7 7 (I 1 7)) (cpP X 11 5 6))) (fun _ => rfl) ?_
    rw [show ((mjR (mjR (mjR (mjR I 8 (va_cpy (I 2) (I 8) 0 0 5)) 9 (va_cpy (I 3) (I 9) 0 0 5)) 10 (va_cpy (I 4) (I 10) 0 0 5)) 12 (va_cpy (I 6) (I 12) 0 0 8)) 1 8) = (I 1 8) from rfl]
    exact mjGo.ret 2 (fun _ => rfl) rfl
  | succ k ih =>
    intro j hj
    rcases hA j (by omega) with hP | ⟨a, kd, hP, hK⟩
    · refine mjGo.run 2 (pc' := 62) (F' := ([some (.ref 7), some (.ref 1), some (.int (nI j))], [.int 6, .int (nI j)], mjH (mjR (mjR (mjR (mjR I 8 (va_cpy (I 2) (I 8) 0 0 5)) 9 (va_cpy (I 3) (I 9) 0 0 5)) 10 (va_cpy (I 4) (I 10) 0 0 5)) 12 (va_cpy (I 6) (I 12) 0 0 8)) (cpP X 11 5 j))) (fun _ => rfl) ?_
      refine mjGo.run 1 (pc' := (bif decide (6 ≤ (nI j)) then 83 else 65)) (F' := ([some (.ref 7), some (.ref 1), some (.int (nI j))], [], mjH (mjR (mjR (mjR (mjR I 8 (va_cpy (I 2) (I 8) 0 0 5)) 9 (va_cpy (I 3) (I 9) 0 0 5)) 10 (va_cpy (I 4) (I 10) 0 0 5)) 12 (va_cpy (I 6) (I 12) 0 0 8)) (cpP X 11 5 j))) (fun _ => rfl) ?_
      refine mjGo.brF (show ¬ 6 ≤ (nI j) by rw [show (6 : Int32) = nI 6 from rfl, nI_leI (by omega) (by omega)]; omega) ?_
      show mjGo _ _ 65 _ _
      refine mjGo.run 6 (pc' := 75) (F' := ([some (.ref 7), some (.ref 1), some (.int (nI j))], [.int (nI j), .ref 5, .int (nI j), .ref 11], mjH (mjR (mjR (mjR (mjR I 8 (va_cpy (I 2) (I 8) 0 0 5)) 9 (va_cpy (I 3) (I 9) 0 0 5)) 10 (va_cpy (I 4) (I 10) 0 0 5)) 12 (va_cpy (I 6) (I 12) 0 0 8)) (cpP X 11 5 j))) (fun _ => rfl) ?_
      refine mjGo.op (pc' := 76) (F' := ([some (.ref 7), some (.ref 1), some (.int (nI j))], [.null, .int (nI j), .ref 11], mjH (mjR (mjR (mjR (mjR I 8 (va_cpy (I 2) (I 8) 0 0 5)) 9 (va_cpy (I 3) (I 9) 0 0 5)) 10 (va_cpy (I 4) (I 10) 0 0 5)) 12 (va_cpy (I 6) (I 12) 0 0 8)) (cpP X 11 5 j))) (o := mjaald 14 76) rfl (fun _ => aaldN_at (n := 6) (by omega) (by omega) rfl rfl ((cpP_r (X := X) (k1 := 11) (k0 := 5) (n := j) (k := 5) (j := j) (by decide)).trans hP)) ?_
      refine mjGo.op (pc' := 77) (F' := ([some (.ref 7), some (.ref 1), some (.int (nI j))], [], mjH (mjR (mjR (mjR (mjR I 8 (va_cpy (I 2) (I 8) 0 0 5)) 9 (va_cpy (I 3) (I 9) 0 0 5)) 10 (va_cpy (I 4) (I 10) 0 0 5)) 12 (va_cpy (I 6) (I 12) 0 0 8)) (stO (cpP X 11 5 j) 11 j none))) (o := mjaast 14 [0, 1, 2, 4, 5, 7, 8, 9] 77) rfl (fun _ => aastN_op (n := 6) (by omega) (by omega) rfl rfl rfl) ?_
      refine mjGo.run 2 (pc' := 59) (F' := ([some (.ref 7), some (.ref 1), some (.int ((nI j) + 1))], [], mjH (mjR (mjR (mjR (mjR I 8 (va_cpy (I 2) (I 8) 0 0 5)) 9 (va_cpy (I 3) (I 9) 0 0 5)) 10 (va_cpy (I 4) (I 10) 0 0 5)) 12 (va_cpy (I 6) (I 12) 0 0 8)) (stO (cpP X 11 5 j) 11 j none))) (fun _ => rfl) ?_
      have k9 := ih (j + 1) (by omega)
      rw [← cpP_s hP, ← nI_1] at k9
      exact k9
    · refine mjGo.run 2 (pc' := 62) (F' := ([some (.ref 7), some (.ref 1), some (.int (nI j))], [.int 6, .int (nI j)], mjH (mjR (mjR (mjR (mjR I 8 (va_cpy (I 2) (I 8) 0 0 5)) 9 (va_cpy (I 3) (I 9) 0 0 5)) 10 (va_cpy (I 4) (I 10) 0 0 5)) 12 (va_cpy (I 6) (I 12) 0 0 8)) (cpP X 11 5 j))) (fun _ => rfl) ?_
      refine mjGo.run 1 (pc' := (bif decide (6 ≤ (nI j)) then 83 else 65)) (F' := ([some (.ref 7), some (.ref 1), some (.int (nI j))], [], mjH (mjR (mjR (mjR (mjR I 8 (va_cpy (I 2) (I 8) 0 0 5)) 9 (va_cpy (I 3) (I 9) 0 0 5)) 10 (va_cpy (I 4) (I 10) 0 0 5)) 12 (va_cpy (I 6) (I 12) 0 0 8)) (cpP X 11 5 j))) (fun _ => rfl) ?_
      refine mjGo.brF (show ¬ 6 ≤ (nI j) by rw [show (6 : Int32) = nI 6 from rfl, nI_leI (by omega) (by omega)]; omega) ?_
      show mjGo _ _ 65 _ _
      refine mjGo.run 6 (pc' := 75) (F' := ([some (.ref 7), some (.ref 1), some (.int (nI j))], [.int (nI j), .ref 5, .int (nI j), .ref 11], mjH (mjR (mjR (mjR (mjR I 8 (va_cpy (I 2) (I 8) 0 0 5)) 9 (va_cpy (I 3) (I 9) 0 0 5)) 10 (va_cpy (I 4) (I 10) 0 0 5)) 12 (va_cpy (I 6) (I 12) 0 0 8)) (cpP X 11 5 j))) (fun _ => rfl) ?_
      refine mjGo.op (pc' := 76) (F' := ([some (.ref 7), some (.ref 1), some (.int (nI j))], [.ref a, .int (nI j), .ref 11], mjH (mjR (mjR (mjR (mjR I 8 (va_cpy (I 2) (I 8) 0 0 5)) 9 (va_cpy (I 3) (I 9) 0 0 5)) 10 (va_cpy (I 4) (I 10) 0 0 5)) 12 (va_cpy (I 6) (I 12) 0 0 8)) (cpP X 11 5 j))) (o := mjaald 14 76) rfl (fun _ => aald_at (n := 6) (by omega) (by omega) rfl rfl ((cpP_r (X := X) (k1 := 11) (k0 := 5) (n := j) (k := 5) (j := j) (by decide)).trans hP)) ?_
      refine mjGo.op (pc' := 77) (F' := ([some (.ref 7), some (.ref 1), some (.int (nI j))], [], mjH (mjR (mjR (mjR (mjR I 8 (va_cpy (I 2) (I 8) 0 0 5)) 9 (va_cpy (I 3) (I 9) 0 0 5)) 10 (va_cpy (I 4) (I 10) 0 0 5)) 12 (va_cpy (I 6) (I 12) 0 0 8)) (stO (cpP X 11 5 j) 11 j (some a)))) (o := mjaast 14 [0, 1, 2, 4, 5, 7, 8, 9] 77) rfl (fun _ => aast_op (n := 6) (X := cpP X 11 5 j) (by omega) (by omega) rfl rfl rfl hK) ?_
      refine mjGo.run 2 (pc' := 59) (F' := ([some (.ref 7), some (.ref 1), some (.int ((nI j) + 1))], [], mjH (mjR (mjR (mjR (mjR I 8 (va_cpy (I 2) (I 8) 0 0 5)) 9 (va_cpy (I 3) (I 9) 0 0 5)) 10 (va_cpy (I 4) (I 10) 0 0 5)) 12 (va_cpy (I 6) (I 12) 0 0 8)) (stO (cpP X 11 5 j) 11 j (some a)))) (fun _ => rfl) ?_
      have k9 := ih (j + 1) (by omega)
      rw [← cpP_s hP, ← nI_1] at k9
      exact k9
theorem c_bc7_1 (d : Nat) {I : Nat → Nat → Int32} {X : MX} (hA : ∀ i, i < 6 → X.1 5 i = none ∨ ∃ a kd, X.1 5 i = some a ∧ lkK X a kd) : mjEv d nyX10_become [.ref 7, .ref 1] (mjH I X) (.inl none) (mjH (bcI7_1 I) (cpP X 11 5 6)) := by
  refine mjEv.of ?_
  show mjGo d nyX10_become 0 ([some (.ref 7), some (.ref 1), none], [], mjH I X) _
  refine mjGo.run 7 (pc' := 11) (F' := ([some (.ref 7), some (.ref 1), none], [.int 5, .int 0, .ref 8, .int 0, .ref 2], mjH I X)) (fun _ => rfl) ?_
  refine mjGo.op (pc' := 14) (F' := ([some (.ref 7), some (.ref 1), none], [], mjH (mjR I 8 (va_cpy (I 2) (I 8) 0 0 5)) X)) (o := mjcopy 14) rfl (fun _ => copy_op (I := I) (n0 := 5) (n1 := 5) (s := 0) (t := 0) (m := 5) rfl rfl rfl rfl (by decide) (by decide) (by decide) (by decide) rfl) ?_
  refine mjGo.run 7 (pc' := 25) (F' := ([some (.ref 7), some (.ref 1), none], [.int 5, .int 0, .ref 9, .int 0, .ref 3], mjH (mjR I 8 (va_cpy (I 2) (I 8) 0 0 5)) X)) (fun _ => rfl) ?_
  refine mjGo.op (pc' := 28) (F' := ([some (.ref 7), some (.ref 1), none], [], mjH (mjR (mjR I 8 (va_cpy (I 2) (I 8) 0 0 5)) 9 (va_cpy (I 3) (I 9) 0 0 5)) X)) (o := mjcopy 28) rfl (fun _ => copy_op (I := (mjR I 8 (va_cpy (I 2) (I 8) 0 0 5))) (n0 := 5) (n1 := 5) (s := 0) (t := 0) (m := 5) rfl rfl rfl rfl (by decide) (by decide) (by decide) (by decide) rfl) ?_
  refine mjGo.run 7 (pc' := 39) (F' := ([some (.ref 7), some (.ref 1), none], [.int 5, .int 0, .ref 10, .int 0, .ref 4], mjH (mjR (mjR I 8 (va_cpy (I 2) (I 8) 0 0 5)) 9 (va_cpy (I 3) (I 9) 0 0 5)) X)) (fun _ => rfl) ?_
  refine mjGo.op (pc' := 42) (F' := ([some (.ref 7), some (.ref 1), none], [], mjH (mjR (mjR (mjR I 8 (va_cpy (I 2) (I 8) 0 0 5)) 9 (va_cpy (I 3) (I 9) 0 0 5)) 10 (va_cpy (I 4) (I 10) 0 0 5)) X)) (o := mjcopy 42) rfl (fun _ => copy_op (I := (mjR (mjR I 8 (va_cpy (I 2) (I 8) 0 0 5)) 9 (va_cpy (I 3) (I 9) 0 0 5))) (n0 := 5) (n1 := 5) (s := 0) (t := 0) (m := 5) rfl rfl rfl rfl (by decide) (by decide) (by decide) (by decide) rfl) ?_
  refine mjGo.run 7 (pc' := 54) (F' := ([some (.ref 7), some (.ref 1), none], [.int 8, .int 0, .ref 12, .int 0, .ref 6], mjH (mjR (mjR (mjR I 8 (va_cpy (I 2) (I 8) 0 0 5)) 9 (va_cpy (I 3) (I 9) 0 0 5)) 10 (va_cpy (I 4) (I 10) 0 0 5)) X)) (fun _ => rfl) ?_
  refine mjGo.op (pc' := 57) (F' := ([some (.ref 7), some (.ref 1), none], [], mjH (mjR (mjR (mjR (mjR I 8 (va_cpy (I 2) (I 8) 0 0 5)) 9 (va_cpy (I 3) (I 9) 0 0 5)) 10 (va_cpy (I 4) (I 10) 0 0 5)) 12 (va_cpy (I 6) (I 12) 0 0 8)) X)) (o := mjcopy 57) rfl (fun _ => copy_op (I := (mjR (mjR (mjR I 8 (va_cpy (I 2) (I 8) 0 0 5)) 9 (va_cpy (I 3) (I 9) 0 0 5)) 10 (va_cpy (I 4) (I 10) 0 0 5))) (n0 := 8) (n1 := 8) (s := 0) (t := 0) (m := 8) rfl rfl rfl rfl (by decide) (by decide) (by decide) (by decide) rfl) ?_
  refine mjGo.run 2 (pc' := 59) (F' := ([some (.ref 7), some (.ref 1), some (.int 0)], [], mjH (mjR (mjR (mjR (mjR I 8 (va_cpy (I 2) (I 8) 0 0 5)) 9 (va_cpy (I 3) (I 9) 0 0 5)) 10 (va_cpy (I 4) (I 10) 0 0 5)) 12 (va_cpy (I 6) (I 12) 0 0 8)) X)) (fun _ => rfl) ?_
  have k9 := bc7_1_loop (d := d) (I := I) hA 6 0 (by omega)
  rw [cpP_0] at k9
  exact k9
def bcI1_7 (I : Nat → Nat → Int32) : Nat → Nat → Int32 := (mjU (mjU (mjU (mjU (mjR (mjR (mjR (mjR I 2 (va_cpy (I 8) (I 2) 0 0 5)) 3 (va_cpy (I 9) (I 3) 0 0 5)) 4 (va_cpy (I 10) (I 4) 0 0 5)) 6 (va_cpy (I 12) (I 6) 0 0 8)) 1 5 (I 7 5)) 1 6 (I 7 6)) 1 7 (I 7 7)) 1 8 (I 7 8))
theorem bc1_7_loop {d : Nat} {I : Nat → Nat → Int32} {X : MX} (hA : ∀ i, i < 6 → X.1 11 i = none ∨ ∃ a kd, X.1 11 i = some a ∧ lkK X a kd) : ∀ (k j : Nat), j + k = 6 → mjGo d nyX10_become 59 ([some (.ref 1), some (.ref 7), some (.int (nI j))], [], mjH (mjR (mjR (mjR (mjR I 2 (va_cpy (I 8) (I 2) 0 0 5)) 3 (va_cpy (I 9) (I 3) 0 0 5)) 4 (va_cpy (I 10) (I 4) 0 0 5)) 6 (va_cpy (I 12) (I 6) 0 0 8)) (cpP X 5 11 j)) (fun x => x = (.inl none, mjH (bcI1_7 I) (cpP X 5 11 6))) := by
  intro k
  induction k with
  | zero =>
    intro j hj
    have e : j = 6 := by omega
    subst e
    refine mjGo.run 2 (pc' := 62) (F' := ([some (.ref 1), some (.ref 7), some (.int (nI 6))], [.int 6, .int (nI 6)], mjH (mjR (mjR (mjR (mjR I 2 (va_cpy (I 8) (I 2) 0 0 5)) 3 (va_cpy (I 9) (I 3) 0 0 5)) 4 (va_cpy (I 10) (I 4) 0 0 5)) 6 (va_cpy (I 12) (I 6) 0 0 8)) (cpP X 5 11 6))) (fun _ => rfl) ?_
    refine mjGo.run 1 (pc' := (bif decide (6 ≤ (nI 6)) then 83 else 65)) (F' := ([some (.ref 1), some (.ref 7), some (.int (nI 6))], [], mjH (mjR (mjR (mjR (mjR I 2 (va_cpy (I 8) (I 2) 0 0 5)) 3 (va_cpy (I 9) (I 3) 0 0 5)) 4 (va_cpy (I 10) (I 4) 0 0 5)) 6 (va_cpy (I 12) (I 6) 0 0 8)) (cpP X 5 11 6))) (fun _ => rfl) ?_
    refine mjGo.brT (show 6 ≤ (nI 6) by rw [show (6 : Int32) = nI 6 from rfl, nI_leI (by omega) (by omega)]; omega) ?_
    show mjGo _ _ 83 _ _
    refine mjGo.run 3 (pc' := 88) (F' := ([some (.ref 1), some (.ref 7), some (.int (nI 6))], [.int ((mjR (mjR (mjR (mjR I 2 (va_cpy (I 8) (I 2) 0 0 5)) 3 (va_cpy (I 9) (I 3) 0 0 5)) 4 (va_cpy (I 10) (I 4) 0 0 5)) 6 (va_cpy (I 12) (I 6) 0 0 8)) 7 5), .ref 1], mjH (mjR (mjR (mjR (mjR I 2 (va_cpy (I 8) (I 2) 0 0 5)) 3 (va_cpy (I 9) (I 3) 0 0 5)) 4 (va_cpy (I 10) (I 4) 0 0 5)) 6 (va_cpy (I 12) (I 6) 0 0 8)) (cpP X 5 11 6))) (fun _ => rfl) ?_
    refine mjGo.run 0 (pc' := 88) (F' := ([some (.ref 1), some (.ref 7), some (.int (nI 6))], [.int ((mjR (mjR (mjR (mjR I 2 (va_cpy (I 8) (I 2) 0 0 5)) 3 (va_cpy (I 9) (I 3) 0 0 5)) 4 (va_cpy (I 10) (I 4) 0 0 5)) 6 (va_cpy (I 12) (I 6) 0 0 8)) 7 5), .ref 1], mjH (mjR (mjR (mjR (mjR I 2 (va_cpy (I 8) (I 2) 0 0 5)) 3 (va_cpy (I 9) (I 3) 0 0 5)) 4 (va_cpy (I 10) (I 4) 0 0 5)) 6 (va_cpy (I 12) (I 6) 0 0 8)) (cpP X 5 11 6))) (fun _ => rfl) ?_
    rw [show ((mjR (mjR (mjR (mjR I 2 (va_cpy (I 8) (I 2) 0 0 5)) 3 (va_cpy (I 9) (I 3) 0 0 5)) 4 (va_cpy (I 10) (I 4) 0 0 5)) 6 (va_cpy (I 12) (I 6) 0 0 8)) 7 5) = (I 7 5) from rfl]
    refine mjGo.run 4 (pc' := 96) (F' := ([some (.ref 1), some (.ref 7), some (.int (nI 6))], [.int ((mjR (mjR (mjR (mjR I 2 (va_cpy (I 8) (I 2) 0 0 5)) 3 (va_cpy (I 9) (I 3) 0 0 5)) 4 (va_cpy (I 10) (I 4) 0 0 5)) 6 (va_cpy (I 12) (I 6) 0 0 8)) 7 6), .ref 1], mjH (mjU (mjR (mjR (mjR (mjR I 2 (va_cpy (I 8) (I 2) 0 0 5)) 3 (va_cpy (I 9) (I 3) 0 0 5)) 4 (va_cpy (I 10) (I 4) 0 0 5)) 6 (va_cpy (I 12) (I 6) 0 0 8)) 1 5 (I 7 5)) (cpP X 5 11 6))) (fun _ => rfl) ?_
    refine mjGo.run 0 (pc' := 96) (F' := ([some (.ref 1), some (.ref 7), some (.int (nI 6))], [.int ((mjR (mjR (mjR (mjR I 2 (va_cpy (I 8) (I 2) 0 0 5)) 3 (va_cpy (I 9) (I 3) 0 0 5)) 4 (va_cpy (I 10) (I 4) 0 0 5)) 6 (va_cpy (I 12) (I 6) 0 0 8)) 7 6), .ref 1], mjH (mjU (mjR (mjR (mjR (mjR I 2 (va_cpy (I 8) (I 2) 0 0 5)) 3 (va_cpy (I 9) (I 3) 0 0 5)) 4 (va_cpy (I 10) (I 4) 0 0 5)) 6 (va_cpy (I 12) (I 6) 0 0 8)) 1 5 (I 7 5)) (cpP X 5 11 6))) (fun _ => rfl) ?_
    rw [show ((mjR (mjR (mjR (mjR I 2 (va_cpy (I 8) (I 2) 0 0 5)) 3 (va_cpy (I 9) (I 3) 0 0 5)) 4 (va_cpy (I 10) (I 4) 0 0 5)) 6 (va_cpy (I 12) (I 6) 0 0 8)) 7 6) = (I 7 6) from rfl]
    refine mjGo.run 4 (pc' := 104) (F' := ([some (.ref 1), some (.ref 7), some (.int (nI 6))], [.int ((mjR (mjR (mjR (mjR I 2 (va_cpy (I 8) (I 2) 0 0 5)) 3 (va_cpy (I 9) (I 3) 0 0 5)) 4 (va_cpy (I 10) (I 4) 0 0 5)) 6 (va_cpy (I 12) (I 6) 0 0 8)) 7 7), .ref 1], mjH (mjU (mjU (mjR (mjR (mjR (mjR I 2 (va_cpy (I 8) (I 2) 0 0 5)) 3 (va_cpy (I 9) (I 3) 0 0 5)) 4 (va_cpy (I 10) (I 4) 0 0 5)) 6 (va_cpy (I 12) (I 6) 0 0 8)) 1 5 (I 7 5)) 1 6 (I 7 6)) (cpP X 5 11 6))) (fun _ => rfl) ?_
    refine mjGo.run 0 (pc' := 104) (F' := ([some (.ref 1), some (.ref 7), some (.int (nI 6))], [.int ((mjR (mjR (mjR (mjR I 2 (va_cpy (I 8) (I 2) 0 0 5)) 3 (va_cpy (I 9) (I 3) 0 0 5)) 4 (va_cpy (I 10) (I 4) 0 0 5)) 6 (va_cpy (I 12) (I 6) 0 0 8)) 7 7), .ref 1], mjH (mjU (mjU (mjR (mjR (mjR (mjR I 2 (va_cpy (I 8) (I 2) 0 0 5)) 3 (va_cpy (I 9) (I 3) 0 0 5)) 4 (va_cpy (I 10) (I 4) 0 0 5)) 6 (va_cpy (I 12) (I 6) 0 0 8)) 1 5 (I 7 5)) 1 6 (I 7 6)) (cpP X 5 11 6))) (fun _ => rfl) ?_
    rw [show ((mjR (mjR (mjR (mjR I 2 (va_cpy (I 8) (I 2) 0 0 5)) 3 (va_cpy (I 9) (I 3) 0 0 5)) 4 (va_cpy (I 10) (I 4) 0 0 5)) 6 (va_cpy (I 12) (I 6) 0 0 8)) 7 7) = (I 7 7) from rfl]
    refine mjGo.run 4 (pc' := 112) (F' := ([some (.ref 1), some (.ref 7), some (.int (nI 6))], [.int ((mjR (mjR (mjR (mjR I 2 (va_cpy (I 8) (I 2) 0 0 5)) 3 (va_cpy (I 9) (I 3) 0 0 5)) 4 (va_cpy (I 10) (I 4) 0 0 5)) 6 (va_cpy (I 12) (I 6) 0 0 8)) 7 8), .ref 1], mjH (mjU (mjU (mjU (mjR (mjR (mjR (mjR I 2 (va_cpy (I 8) (I 2) 0 0 5)) 3 (va_cpy (I 9) (I 3) 0 0 5)) 4 (va_cpy (I 10) (I 4) 0 0 5)) 6 (va_cpy (I 12) (I 6) 0 0 8)) 1 5 (I 7 5)) 1 6 (I 7 6)) 1 7 (I 7 7)) (cpP X 5 11 6))) (fun _ => rfl) ?_
    refine mjGo.run 0 (pc' := 112) (F' := ([some (.ref 1), some (.ref 7), some (.int (nI 6))], [.int ((mjR (mjR (mjR (mjR I 2 (va_cpy (I 8) (I 2) 0 0 5)) 3 (va_cpy (I 9) (I 3) 0 0 5)) 4 (va_cpy (I 10) (I 4) 0 0 5)) 6 (va_cpy (I 12) (I 6) 0 0 8)) 7 8), .ref 1], mjH (mjU (mjU (mjU (mjR (mjR (mjR (mjR I 2 (va_cpy (I 8) (I 2) 0 0 5)) 3 (va_cpy (I 9) (I 3) 0 0 5)) 4 (va_cpy (I 10) (I 4) 0 0 5)) 6 (va_cpy (I 12) (I 6) 0 0 8)) 1 5 (I 7 5)) 1 6 (I 7 6)) 1 7 (I 7 7)) (cpP X 5 11 6))) (fun _ => rfl) ?_
    rw [show ((mjR (mjR (mjR (mjR I 2 (va_cpy (I 8) (I 2) 0 0 5)) 3 (va_cpy (I 9) (I 3) 0 0 5)) 4 (va_cpy (I 10) (I 4) 0 0 5)) 6 (va_cpy (I 12) (I 6) 0 0 8)) 7 8) = (I 7 8) from rfl]
    exact mjGo.ret 2 (fun _ => rfl) rfl
  | succ k ih =>
    intro j hj
    rcases hA j (by omega) with hP | ⟨a, kd, hP, hK⟩
    · refine mjGo.run 2 (pc' := 62) (F' := ([some (.ref 1), some (.ref 7), some (.int (nI j))], [.int 6, .int (nI j)], mjH (mjR (mjR (mjR (mjR I 2 (va_cpy (I 8) (I 2) 0 0 5)) 3 (va_cpy (I 9) (I 3) 0 0 5)) 4 (va_cpy (I 10) (I 4) 0 0 5)) 6 (va_cpy (I 12) (I 6) 0 0 8)) (cpP X 5 11 j))) (fun _ => rfl) ?_
      refine mjGo.run 1 (pc' := (bif decide (6 ≤ (nI j)) then 83 else 65)) (F' := ([some (.ref 1), some (.ref 7), some (.int (nI j))], [], mjH (mjR (mjR (mjR (mjR I 2 (va_cpy (I 8) (I 2) 0 0 5)) 3 (va_cpy (I 9) (I 3) 0 0 5)) 4 (va_cpy (I 10) (I 4) 0 0 5)) 6 (va_cpy (I 12) (I 6) 0 0 8)) (cpP X 5 11 j))) (fun _ => rfl) ?_
      refine mjGo.brF (show ¬ 6 ≤ (nI j) by rw [show (6 : Int32) = nI 6 from rfl, nI_leI (by omega) (by omega)]; omega) ?_
      show mjGo _ _ 65 _ _
      refine mjGo.run 6 (pc' := 75) (F' := ([some (.ref 1), some (.ref 7), some (.int (nI j))], [.int (nI j), .ref 11, .int (nI j), .ref 5], mjH (mjR (mjR (mjR (mjR I 2 (va_cpy (I 8) (I 2) 0 0 5)) 3 (va_cpy (I 9) (I 3) 0 0 5)) 4 (va_cpy (I 10) (I 4) 0 0 5)) 6 (va_cpy (I 12) (I 6) 0 0 8)) (cpP X 5 11 j))) (fun _ => rfl) ?_
      refine mjGo.op (pc' := 76) (F' := ([some (.ref 1), some (.ref 7), some (.int (nI j))], [.null, .int (nI j), .ref 5], mjH (mjR (mjR (mjR (mjR I 2 (va_cpy (I 8) (I 2) 0 0 5)) 3 (va_cpy (I 9) (I 3) 0 0 5)) 4 (va_cpy (I 10) (I 4) 0 0 5)) 6 (va_cpy (I 12) (I 6) 0 0 8)) (cpP X 5 11 j))) (o := mjaald 14 76) rfl (fun _ => aaldN_at (n := 6) (by omega) (by omega) rfl rfl ((cpP_r (X := X) (k1 := 5) (k0 := 11) (n := j) (k := 11) (j := j) (by decide)).trans hP)) ?_
      refine mjGo.op (pc' := 77) (F' := ([some (.ref 1), some (.ref 7), some (.int (nI j))], [], mjH (mjR (mjR (mjR (mjR I 2 (va_cpy (I 8) (I 2) 0 0 5)) 3 (va_cpy (I 9) (I 3) 0 0 5)) 4 (va_cpy (I 10) (I 4) 0 0 5)) 6 (va_cpy (I 12) (I 6) 0 0 8)) (stO (cpP X 5 11 j) 5 j none))) (o := mjaast 14 [0, 1, 2, 4, 5, 7, 8, 9] 77) rfl (fun _ => aastN_op (n := 6) (by omega) (by omega) rfl rfl rfl) ?_
      refine mjGo.run 2 (pc' := 59) (F' := ([some (.ref 1), some (.ref 7), some (.int ((nI j) + 1))], [], mjH (mjR (mjR (mjR (mjR I 2 (va_cpy (I 8) (I 2) 0 0 5)) 3 (va_cpy (I 9) (I 3) 0 0 5)) 4 (va_cpy (I 10) (I 4) 0 0 5)) 6 (va_cpy (I 12) (I 6) 0 0 8)) (stO (cpP X 5 11 j) 5 j none))) (fun _ => rfl) ?_
      have k9 := ih (j + 1) (by omega)
      rw [← cpP_s hP, ← nI_1] at k9
      exact k9
    · refine mjGo.run 2 (pc' := 62) (F' := ([some (.ref 1), some (.ref 7), some (.int (nI j))], [.int 6, .int (nI j)], mjH (mjR (mjR (mjR (mjR I 2 (va_cpy (I 8) (I 2) 0 0 5)) 3 (va_cpy (I 9) (I 3) 0 0 5)) 4 (va_cpy (I 10) (I 4) 0 0 5)) 6 (va_cpy (I 12) (I 6) 0 0 8)) (cpP X 5 11 j))) (fun _ => rfl) ?_
      refine mjGo.run 1 (pc' := (bif decide (6 ≤ (nI j)) then 83 else 65)) (F' := ([some (.ref 1), some (.ref 7), some (.int (nI j))], [], mjH (mjR (mjR (mjR (mjR I 2 (va_cpy (I 8) (I 2) 0 0 5)) 3 (va_cpy (I 9) (I 3) 0 0 5)) 4 (va_cpy (I 10) (I 4) 0 0 5)) 6 (va_cpy (I 12) (I 6) 0 0 8)) (cpP X 5 11 j))) (fun _ => rfl) ?_
      refine mjGo.brF (show ¬ 6 ≤ (nI j) by rw [show (6 : Int32) = nI 6 from rfl, nI_leI (by omega) (by omega)]; omega) ?_
      show mjGo _ _ 65 _ _
      refine mjGo.run 6 (pc' := 75) (F' := ([some (.ref 1), some (.ref 7), some (.int (nI j))], [.int (nI j), .ref 11, .int (nI j), .ref 5], mjH (mjR (mjR (mjR (mjR I 2 (va_cpy (I 8) (I 2) 0 0 5)) 3 (va_cpy (I 9) (I 3) 0 0 5)) 4 (va_cpy (I 10) (I 4) 0 0 5)) 6 (va_cpy (I 12) (I 6) 0 0 8)) (cpP X 5 11 j))) (fun _ => rfl) ?_
      refine mjGo.op (pc' := 76) (F' := ([some (.ref 1), some (.ref 7), some (.int (nI j))], [.ref a, .int (nI j), .ref 5], mjH (mjR (mjR (mjR (mjR I 2 (va_cpy (I 8) (I 2) 0 0 5)) 3 (va_cpy (I 9) (I 3) 0 0 5)) 4 (va_cpy (I 10) (I 4) 0 0 5)) 6 (va_cpy (I 12) (I 6) 0 0 8)) (cpP X 5 11 j))) (o := mjaald 14 76) rfl (fun _ => aald_at (n := 6) (by omega) (by omega) rfl rfl ((cpP_r (X := X) (k1 := 5) (k0 := 11) (n := j) (k := 11) (j := j) (by decide)).trans hP)) ?_
      refine mjGo.op (pc' := 77) (F' := ([some (.ref 1), some (.ref 7), some (.int (nI j))], [], mjH (mjR (mjR (mjR (mjR I 2 (va_cpy (I 8) (I 2) 0 0 5)) 3 (va_cpy (I 9) (I 3) 0 0 5)) 4 (va_cpy (I 10) (I 4) 0 0 5)) 6 (va_cpy (I 12) (I 6) 0 0 8)) (stO (cpP X 5 11 j) 5 j (some a)))) (o := mjaast 14 [0, 1, 2, 4, 5, 7, 8, 9] 77) rfl (fun _ => aast_op (n := 6) (X := cpP X 5 11 j) (by omega) (by omega) rfl rfl rfl hK) ?_
      refine mjGo.run 2 (pc' := 59) (F' := ([some (.ref 1), some (.ref 7), some (.int ((nI j) + 1))], [], mjH (mjR (mjR (mjR (mjR I 2 (va_cpy (I 8) (I 2) 0 0 5)) 3 (va_cpy (I 9) (I 3) 0 0 5)) 4 (va_cpy (I 10) (I 4) 0 0 5)) 6 (va_cpy (I 12) (I 6) 0 0 8)) (stO (cpP X 5 11 j) 5 j (some a)))) (fun _ => rfl) ?_
      have k9 := ih (j + 1) (by omega)
      rw [← cpP_s hP, ← nI_1] at k9
      exact k9
theorem c_bc1_7 (d : Nat) {I : Nat → Nat → Int32} {X : MX} (hA : ∀ i, i < 6 → X.1 11 i = none ∨ ∃ a kd, X.1 11 i = some a ∧ lkK X a kd) : mjEv d nyX10_become [.ref 1, .ref 7] (mjH I X) (.inl none) (mjH (bcI1_7 I) (cpP X 5 11 6)) := by
  refine mjEv.of ?_
  show mjGo d nyX10_become 0 ([some (.ref 1), some (.ref 7), none], [], mjH I X) _
  refine mjGo.run 7 (pc' := 11) (F' := ([some (.ref 1), some (.ref 7), none], [.int 5, .int 0, .ref 2, .int 0, .ref 8], mjH I X)) (fun _ => rfl) ?_
  refine mjGo.op (pc' := 14) (F' := ([some (.ref 1), some (.ref 7), none], [], mjH (mjR I 2 (va_cpy (I 8) (I 2) 0 0 5)) X)) (o := mjcopy 14) rfl (fun _ => copy_op (I := I) (n0 := 5) (n1 := 5) (s := 0) (t := 0) (m := 5) rfl rfl rfl rfl (by decide) (by decide) (by decide) (by decide) rfl) ?_
  refine mjGo.run 7 (pc' := 25) (F' := ([some (.ref 1), some (.ref 7), none], [.int 5, .int 0, .ref 3, .int 0, .ref 9], mjH (mjR I 2 (va_cpy (I 8) (I 2) 0 0 5)) X)) (fun _ => rfl) ?_
  refine mjGo.op (pc' := 28) (F' := ([some (.ref 1), some (.ref 7), none], [], mjH (mjR (mjR I 2 (va_cpy (I 8) (I 2) 0 0 5)) 3 (va_cpy (I 9) (I 3) 0 0 5)) X)) (o := mjcopy 28) rfl (fun _ => copy_op (I := (mjR I 2 (va_cpy (I 8) (I 2) 0 0 5))) (n0 := 5) (n1 := 5) (s := 0) (t := 0) (m := 5) rfl rfl rfl rfl (by decide) (by decide) (by decide) (by decide) rfl) ?_
  refine mjGo.run 7 (pc' := 39) (F' := ([some (.ref 1), some (.ref 7), none], [.int 5, .int 0, .ref 4, .int 0, .ref 10], mjH (mjR (mjR I 2 (va_cpy (I 8) (I 2) 0 0 5)) 3 (va_cpy (I 9) (I 3) 0 0 5)) X)) (fun _ => rfl) ?_
  refine mjGo.op (pc' := 42) (F' := ([some (.ref 1), some (.ref 7), none], [], mjH (mjR (mjR (mjR I 2 (va_cpy (I 8) (I 2) 0 0 5)) 3 (va_cpy (I 9) (I 3) 0 0 5)) 4 (va_cpy (I 10) (I 4) 0 0 5)) X)) (o := mjcopy 42) rfl (fun _ => copy_op (I := (mjR (mjR I 2 (va_cpy (I 8) (I 2) 0 0 5)) 3 (va_cpy (I 9) (I 3) 0 0 5))) (n0 := 5) (n1 := 5) (s := 0) (t := 0) (m := 5) rfl rfl rfl rfl (by decide) (by decide) (by decide) (by decide) rfl) ?_
  refine mjGo.run 7 (pc' := 54) (F' := ([some (.ref 1), some (.ref 7), none], [.int 8, .int 0, .ref 6, .int 0, .ref 12], mjH (mjR (mjR (mjR I 2 (va_cpy (I 8) (I 2) 0 0 5)) 3 (va_cpy (I 9) (I 3) 0 0 5)) 4 (va_cpy (I 10) (I 4) 0 0 5)) X)) (fun _ => rfl) ?_
  refine mjGo.op (pc' := 57) (F' := ([some (.ref 1), some (.ref 7), none], [], mjH (mjR (mjR (mjR (mjR I 2 (va_cpy (I 8) (I 2) 0 0 5)) 3 (va_cpy (I 9) (I 3) 0 0 5)) 4 (va_cpy (I 10) (I 4) 0 0 5)) 6 (va_cpy (I 12) (I 6) 0 0 8)) X)) (o := mjcopy 57) rfl (fun _ => copy_op (I := (mjR (mjR (mjR I 2 (va_cpy (I 8) (I 2) 0 0 5)) 3 (va_cpy (I 9) (I 3) 0 0 5)) 4 (va_cpy (I 10) (I 4) 0 0 5))) (n0 := 8) (n1 := 8) (s := 0) (t := 0) (m := 8) rfl rfl rfl rfl (by decide) (by decide) (by decide) (by decide) rfl) ?_
  refine mjGo.run 2 (pc' := 59) (F' := ([some (.ref 1), some (.ref 7), some (.int 0)], [], mjH (mjR (mjR (mjR (mjR I 2 (va_cpy (I 8) (I 2) 0 0 5)) 3 (va_cpy (I 9) (I 3) 0 0 5)) 4 (va_cpy (I 10) (I 4) 0 0 5)) 6 (va_cpy (I 12) (I 6) 0 0 8)) X)) (fun _ => rfl) ?_
  have k9 := bc1_7_loop (d := d) (I := I) hA 6 0 (by omega)
  rw [cpP_0] at k9
  exact k9
