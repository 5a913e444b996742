/-! the reference: move -/
theorem alen_op {I : Nat → Nat → Int32} {X : MX} {k n nx : Nat} {al : List (Option Value)} {st : List Value} {call : MCall} (hk : (Nat.blt k (mjN (mjH I X)) && (mjT (mjH I X) k).1 == 13) = true) (hn : (mjT (mjH I X) k).2 = n) : mjalen nx call (al, .ref k :: st, mjH I X) = some (.inl (nx, (al, .int (nI n) :: st, mjH I X))) := by
  have h1 : Nat.blt k (mjN (mjH I X)) = true := (Bool.and_eq_true_iff.mp hk).1
  have h2 : (mjT (mjH I X) k).1 = 13 := by simpa using (Bool.and_eq_true_iff.mp hk).2
  unfold mjalen
  show (bif Nat.blt k (mjN (mjH I X)) && Nat.ble 13 (mjT (mjH I X) k).1 then (some (.inl (nx, (al, .int (Int32.ofNat (mjT (mjH I X) k).2) :: st, mjH I X))) : Option ((Nat × MF) ⊕ (MO × MH))) else none) = _
  rw [h1, h2, hn]
  rfl
theorem m_mv_loop {d k0 k1 n : Nat} {f g : Nat → Int32} {I : Nat → Nat → Int32} {X : MX} (b0 : n < 2 ^ 31) (hne : k0 ≠ k1) (hf : I k0 = f) (hg : I k1 = g) (t0 : (Nat.blt k0 (mjN (mjH I X)) && (mjT (mjH I X) k0).1 == 13) = true) (n0 : (mjT (mjH I X) k0).2 = n) (t1 : (Nat.blt k1 (mjN (mjH I X)) && (mjT (mjH I X) k1).1 == 13) = true) (n1 : (mjT (mjH I X) k1).2 = n) : ∀ (k j : Nat), j + k = n → mjGo d nyX12_move 2 ([some (.ref k0), some (.ref k1), some (.int (nI j))], [], mjH (mjR I k1 (va_cpy f g 0 0 j)) X) (fun x => x = (.inl none, mjH (mjR I k1 (va_cpy f g 0 0 n)) X)) := by
  intro k
  induction k with
  | zero =>
    intro j hj
    have e : j = n := by omega
    subst e
    refine mjGo.run 2 (pc' := 4) (F' := ([some (.ref k0), some (.ref k1), some (.int (nI j))], [.ref k0, .int (nI j)], mjH (mjR I k1 (va_cpy f g 0 0 j)) X)) (fun _ => rfl) ?_
    refine mjGo.op (pc' := 5) (F' := ([some (.ref k0), some (.ref k1), some (.int (nI j))], [.int (nI j), .int (nI j)], mjH (mjR I k1 (va_cpy f g 0 0 j)) X)) (o := mjalen 5) rfl (fun _ => alen_op t0 n0) ?_
    refine mjGo.run 1 (pc' := (bif decide ((nI j) ≤ (nI j)) then 20 else 8)) (F' := ([some (.ref k0), some (.ref k1), some (.int (nI j))], [], mjH (mjR I k1 (va_cpy f g 0 0 j)) X)) (fun _ => rfl) ?_
    refine mjGo.brT (show (nI j) ≤ (nI j) by rw [nI_leI (by omega) (by omega)]; omega) ?_
    show mjGo _ _ 20 _ _
    exact mjGo.ret 1 (fun _ => rfl) rfl
  | succ k ih =>
    intro j hj
    refine mjGo.run 2 (pc' := 4) (F' := ([some (.ref k0), some (.ref k1), some (.int (nI j))], [.ref k0, .int (nI j)], mjH (mjR I k1 (va_cpy f g 0 0 j)) X)) (fun _ => rfl) ?_
    refine mjGo.op (pc' := 5) (F' := ([some (.ref k0), some (.ref k1), some (.int (nI j))], [.int (nI n), .int (nI j)], mjH (mjR I k1 (va_cpy f g 0 0 j)) X)) (o := mjalen 5) rfl (fun _ => alen_op t0 n0) ?_
    refine mjGo.run 1 (pc' := (bif decide ((nI n) ≤ (nI j)) then 20 else 8)) (F' := ([some (.ref k0), some (.ref k1), some (.int (nI j))], [], mjH (mjR I k1 (va_cpy f g 0 0 j)) X)) (fun _ => rfl) ?_
    refine mjGo.brF (show ¬ (nI n) ≤ (nI j) by rw [nI_leI (by omega) (by omega)]; omega) ?_
    show mjGo _ _ 8 _ _
    refine mjGo.run 4 (pc' := 12) (F' := ([some (.ref k0), some (.ref k1), some (.int (nI j))], [.int (nI j), .ref k0, .int (nI j), .ref k1], mjH (mjR I k1 (va_cpy f g 0 0 j)) X)) (fun _ => rfl) ?_
    refine mjGo.op (pc' := 13) (F' := ([some (.ref k0), some (.ref k1), some (.int (nI j))], [.int ((mjR I k1 (va_cpy f g 0 0 j)) k0 j), .int (nI j), .ref k1], mjH (mjR I k1 (va_cpy f g 0 0 j)) X)) (o := mjiald 13) rfl (fun _ => mjald_n (n := n) (by omega) (by omega) (t0) (n0)) ?_
    refine mjGo.run 0 (pc' := 13) (F' := ([some (.ref k0), some (.ref k1), some (.int (nI j))], [.int ((mjR I k1 (va_cpy f g 0 0 j)) k0 j), .int (nI j), .ref k1], mjH (mjR I k1 (va_cpy f g 0 0 j)) X)) (fun _ => rfl) ?_
    rw [show ((mjR I k1 (va_cpy f g 0 0 j)) k0 j) = (f j) from by rw [mjR_ne hne, hf]]
    refine mjGo.op (pc' := 14) (F' := ([some (.ref k0), some (.ref k1), some (.int (nI j))], [], mjH (mjU (mjR I k1 (va_cpy f g 0 0 j)) k1 j (f j)) X)) (o := mjiast 14) rfl (fun _ => mjast_n (n := n) (by omega) (by omega) (t1) (n1)) ?_
    refine mjGo.run 2 (pc' := 2) (F' := ([some (.ref k0), some (.ref k1), some (.int ((nI j) + 1))], [], mjH (mjU (mjR I k1 (va_cpy f g 0 0 j)) k1 j (f j)) X)) (fun _ => rfl) ?_
    have q9 := cpy_s (I := I) (f := f) (g := g) (k := k1) (s := 0) (t := 0) (n := j) (v := f j) (by rw [Nat.zero_add])
    rw [Nat.zero_add] at q9
    rw [q9]
    have k9 := ih (j + 1) (by omega)
    rw [← nI_1] at k9
    exact k9
theorem c_move (d : Nat) {k0 k1 n : Nat} {f g : Nat → Int32} {I : Nat → Nat → Int32} {X : MX} (b0 : n < 2 ^ 31) (hne : k0 ≠ k1) (hf : I k0 = f) (hg : I k1 = g) (t0 : (Nat.blt k0 (mjN (mjH I X)) && (mjT (mjH I X) k0).1 == 13) = true) (n0 : (mjT (mjH I X) k0).2 = n) (t1 : (Nat.blt k1 (mjN (mjH I X)) && (mjT (mjH I X) k1).1 == 13) = true) (n1 : (mjT (mjH I X) k1).2 = n) : mjEv d nyX12_move [.ref k0, .ref k1] (mjH I X) (.inl none) (mjH (mjR I k1 (va_cpy f g 0 0 n)) X) := by
  refine mjEv.of ?_
  refine mjGo.run 2 (pc' := 2) (F' := ([some (.ref k0), some (.ref k1), some (.int (nI 0))], [], mjH I X)) (fun _ => rfl) ?_
  have k9 := m_mv_loop (d := d) (X := X) b0 hne hf hg t0 n0 t1 n1 n 0 (by omega)
  rw [cpy_0, ← hg, mjR_id] at k9
  rw [← hg]
  exact k9
def mvI53_44 (I : Nat → Nat → Int32) : Nat → Nat → Int32 := (mjR (mjR (mjR (mjR (mjR (mjR (mjR (mjR (mjR I 53 (va_cpy (I 44) (I 53) 0 0 4)) 54 (va_cpy (I 45) (I 54) 0 0 5)) 55 (va_cpy (I 46) (I 55) 0 0 5)) 56 (va_cpy (I 47) (I 56) 0 0 5)) 57 (va_cpy (I 48) (I 57) 0 0 6)) 58 (va_cpy (I 49) (I 58) 0 0 6)) 59 (va_cpy (I 50) (I 59) 0 0 6)) 60 (va_cpy (I 51) (I 60) 0 0 6)) 61 (va_cpy (I 52) (I 61) 0 0 8))
def mvI44_53 (I : Nat → Nat → Int32) : Nat → Nat → Int32 := (mjR (mjR (mjR (mjR (mjR (mjR (mjR (mjR (mjR I 44 (va_cpy (I 53) (I 44) 0 0 4)) 45 (va_cpy (I 54) (I 45) 0 0 5)) 46 (va_cpy (I 55) (I 46) 0 0 5)) 47 (va_cpy (I 56) (I 47) 0 0 5)) 48 (va_cpy (I 57) (I 48) 0 0 6)) 49 (va_cpy (I 58) (I 49) 0 0 6)) 50 (va_cpy (I 59) (I 50) 0 0 6)) 51 (va_cpy (I 60) (I 51) 0 0 6)) 52 (va_cpy (I 61) (I 52) 0 0 8))
theorem c_mImage (d : Nat) {I : Nat → Nat → Int32} {X : MX} : mjEv (d + 1) nyX12_image [.ref 43] (mjH I X) (.inl (some (.int (I 44 1)))) (mjH (mjR (mjR (mjR (mjR (mjR (mjR (mjR (mjR (mjR (mjU I 43 9 1) 53 (va_cpy (I 44) (I 53) 0 0 4)) 54 (va_cpy (I 45) (I 54) 0 0 5)) 55 (va_cpy (I 46) (I 55) 0 0 5)) 56 (va_cpy (I 47) (I 56) 0 0 5)) 57 (va_cpy (I 48) (I 57) 0 0 6)) 58 (va_cpy (I 49) (I 58) 0 0 6)) 59 (va_cpy (I 50) (I 59) 0 0 6)) 60 (va_cpy (I 51) (I 60) 0 0 6)) 61 (va_cpy (I 52) (I 61) 0 0 8)) X) := by
  refine mjEv.of ?_
  show mjGo (d + 1) nyX12_image 0 ([some (.ref 43)], [], mjH I X) _
  refine mjGo.run 7 (pc' := 13) (F' := ([some (.ref 43)], [.ref 53, .ref 44], mjH (mjU I 43 9 1) X)) (fun _ => rfl) ?_
  refine mjGo.call (n := 2) (j := 134) (nx := 16) (o := none) (h' := mjH (mjR (mjU I 43 9 1) 53 (va_cpy (I 44) (I 53) 0 0 4)) X) (fun _ => rfl) (c_move (f := I 44) (g := I 53) (n := 4) d (by decide) (by decide) rfl rfl rfl rfl rfl rfl) ?_
  show mjGo _ _ 16 ([some (.ref 43)], [], mjH (mjR (mjU I 43 9 1) 53 (va_cpy (I 44) (I 53) 0 0 4)) X) _
  refine mjGo.run 4 (pc' := 24) (F' := ([some (.ref 43)], [.ref 54, .ref 45], mjH (mjR (mjU I 43 9 1) 53 (va_cpy (I 44) (I 53) 0 0 4)) X)) (fun _ => rfl) ?_
  refine mjGo.call (n := 2) (j := 134) (nx := 27) (o := none) (h' := mjH (mjR (mjR (mjU I 43 9 1) 53 (va_cpy (I 44) (I 53) 0 0 4)) 54 (va_cpy (I 45) (I 54) 0 0 5)) X) (fun _ => rfl) (c_move (f := I 45) (g := I 54) (n := 5) d (by decide) (by decide) rfl rfl rfl rfl rfl rfl) ?_
  show mjGo _ _ 27 ([some (.ref 43)], [], mjH (mjR (mjR (mjU I 43 9 1) 53 (va_cpy (I 44) (I 53) 0 0 4)) 54 (va_cpy (I 45) (I 54) 0 0 5)) X) _
  refine mjGo.run 4 (pc' := 35) (F' := ([some (.ref 43)], [.ref 55, .ref 46], mjH (mjR (mjR (mjU I 43 9 1) 53 (va_cpy (I 44) (I 53) 0 0 4)) 54 (va_cpy (I 45) (I 54) 0 0 5)) X)) (fun _ => rfl) ?_
  refine mjGo.call (n := 2) (j := 134) (nx := 38) (o := none) (h' := mjH (mjR (mjR (mjR (mjU I 43 9 1) 53 (va_cpy (I 44) (I 53) 0 0 4)) 54 (va_cpy (I 45) (I 54) 0 0 5)) 55 (va_cpy (I 46) (I 55) 0 0 5)) X) (fun _ => rfl) (c_move (f := I 46) (g := I 55) (n := 5) d (by decide) (by decide) rfl rfl rfl rfl rfl rfl) ?_
  show mjGo _ _ 38 ([some (.ref 43)], [], mjH (mjR (mjR (mjR (mjU I 43 9 1) 53 (va_cpy (I 44) (I 53) 0 0 4)) 54 (va_cpy (I 45) (I 54) 0 0 5)) 55 (va_cpy (I 46) (I 55) 0 0 5)) X) _
  refine mjGo.run 4 (pc' := 46) (F' := ([some (.ref 43)], [.ref 56, .ref 47], mjH (mjR (mjR (mjR (mjU I 43 9 1) 53 (va_cpy (I 44) (I 53) 0 0 4)) 54 (va_cpy (I 45) (I 54) 0 0 5)) 55 (va_cpy (I 46) (I 55) 0 0 5)) X)) (fun _ => rfl) ?_
  refine mjGo.call (n := 2) (j := 134) (nx := 49) (o := none) (h' := mjH (mjR (mjR (mjR (mjR (mjU I 43 9 1) 53 (va_cpy (I 44) (I 53) 0 0 4)) 54 (va_cpy (I 45) (I 54) 0 0 5)) 55 (va_cpy (I 46) (I 55) 0 0 5)) 56 (va_cpy (I 47) (I 56) 0 0 5)) X) (fun _ => rfl) (c_move (f := I 47) (g := I 56) (n := 5) d (by decide) (by decide) rfl rfl rfl rfl rfl rfl) ?_
  show mjGo _ _ 49 ([some (.ref 43)], [], mjH (mjR (mjR (mjR (mjR (mjU I 43 9 1) 53 (va_cpy (I 44) (I 53) 0 0 4)) 54 (va_cpy (I 45) (I 54) 0 0 5)) 55 (va_cpy (I 46) (I 55) 0 0 5)) 56 (va_cpy (I 47) (I 56) 0 0 5)) X) _
  refine mjGo.run 4 (pc' := 57) (F' := ([some (.ref 43)], [.ref 57, .ref 48], mjH (mjR (mjR (mjR (mjR (mjU I 43 9 1) 53 (va_cpy (I 44) (I 53) 0 0 4)) 54 (va_cpy (I 45) (I 54) 0 0 5)) 55 (va_cpy (I 46) (I 55) 0 0 5)) 56 (va_cpy (I 47) (I 56) 0 0 5)) X)) (fun _ => rfl) ?_
  refine mjGo.call (n := 2) (j := 134) (nx := 60) (o := none) (h' := mjH (mjR (mjR (mjR (mjR (mjR (mjU I 43 9 1) 53 (va_cpy (I 44) (I 53) 0 0 4)) 54 (va_cpy (I 45) (I 54) 0 0 5)) 55 (va_cpy (I 46) (I 55) 0 0 5)) 56 (va_cpy (I 47) (I 56) 0 0 5)) 57 (va_cpy (I 48) (I 57) 0 0 6)) X) (fun _ => rfl) (c_move (f := I 48) (g := I 57) (n := 6) d (by decide) (by decide) rfl rfl rfl rfl rfl rfl) ?_
  show mjGo _ _ 60 ([some (.ref 43)], [], mjH (mjR (mjR (mjR (mjR (mjR (mjU I 43 9 1) 53 (va_cpy (I 44) (I 53) 0 0 4)) 54 (va_cpy (I 45) (I 54) 0 0 5)) 55 (va_cpy (I 46) (I 55) 0 0 5)) 56 (va_cpy (I 47) (I 56) 0 0 5)) 57 (va_cpy (I 48) (I 57) 0 0 6)) X) _
  refine mjGo.run 4 (pc' := 68) (F' := ([some (.ref 43)], [.ref 58, .ref 49], mjH (mjR (mjR (mjR (mjR (mjR (mjU I 43 9 1) 53 (va_cpy (I 44) (I 53) 0 0 4)) 54 (va_cpy (I 45) (I 54) 0 0 5)) 55 (va_cpy (I 46) (I 55) 0 0 5)) 56 (va_cpy (I 47) (I 56) 0 0 5)) 57 (va_cpy (I 48) (I 57) 0 0 6)) X)) (fun _ => rfl) ?_
  refine mjGo.call (n := 2) (j := 134) (nx := 71) (o := none) (h' := mjH (mjR (mjR (mjR (mjR (mjR (mjR (mjU I 43 9 1) 53 (va_cpy (I 44) (I 53) 0 0 4)) 54 (va_cpy (I 45) (I 54) 0 0 5)) 55 (va_cpy (I 46) (I 55) 0 0 5)) 56 (va_cpy (I 47) (I 56) 0 0 5)) 57 (va_cpy (I 48) (I 57) 0 0 6)) 58 (va_cpy (I 49) (I 58) 0 0 6)) X) (fun _ => rfl) (c_move (f := I 49) (g := I 58) (n := 6) d (by decide) (by decide) rfl rfl rfl rfl rfl rfl) ?_
  show mjGo _ _ 71 ([some (.ref 43)], [], mjH (mjR (mjR (mjR (mjR (mjR (mjR (mjU I 43 9 1) 53 (va_cpy (I 44) (I 53) 0 0 4)) 54 (va_cpy (I 45) (I 54) 0 0 5)) 55 (va_cpy (I 46) (I 55) 0 0 5)) 56 (va_cpy (I 47) (I 56) 0 0 5)) 57 (va_cpy (I 48) (I 57) 0 0 6)) 58 (va_cpy (I 49) (I 58) 0 0 6)) X) _
  refine mjGo.run 4 (pc' := 79) (F' := ([some (.ref 43)], [.ref 59, .ref 50], mjH (mjR (mjR (mjR (mjR (mjR (mjR (mjU I 43 9 1) 53 (va_cpy (I 44) (I 53) 0 0 4)) 54 (va_cpy (I 45) (I 54) 0 0 5)) 55 (va_cpy (I 46) (I 55) 0 0 5)) 56 (va_cpy (I 47) (I 56) 0 0 5)) 57 (va_cpy (I 48) (I 57) 0 0 6)) 58 (va_cpy (I 49) (I 58) 0 0 6)) X)) (fun _ => rfl) ?_
  refine mjGo.call (n := 2) (j := 134) (nx := 82) (o := none) (h' := mjH (mjR (mjR (mjR (mjR (mjR (mjR (mjR (mjU I 43 9 1) 53 (va_cpy (I 44) (I 53) 0 0 4)) 54 (va_cpy (I 45) (I 54) 0 0 5)) 55 (va_cpy (I 46) (I 55) 0 0 5)) 56 (va_cpy (I 47) (I 56) 0 0 5)) 57 (va_cpy (I 48) (I 57) 0 0 6)) 58 (va_cpy (I 49) (I 58) 0 0 6)) 59 (va_cpy (I 50) (I 59) 0 0 6)) X) (fun _ => rfl) (c_move (f := I 50) (g := I 59) (n := 6) d (by decide) (by decide) rfl rfl rfl rfl rfl rfl) ?_
  show mjGo _ _ 82 ([some (.ref 43)], [], mjH (mjR (mjR (mjR (mjR (mjR (mjR (mjR (mjU I 43 9 1) 53 (va_cpy (I 44) (I 53) 0 0 4)) 54 (va_cpy (I 45) (I 54) 0 0 5)) 55 (va_cpy (I 46) (I 55) 0 0 5)) 56 (va_cpy (I 47) (I 56) 0 0 5)) 57 (va_cpy (I 48) (I 57) 0 0 6)) 58 (va_cpy (I 49) (I 58) 0 0 6)) 59 (va_cpy (I 50) (I 59) 0 0 6)) X) _
  refine mjGo.run 4 (pc' := 90) (F' := ([some (.ref 43)], [.ref 60, .ref 51], mjH (mjR (mjR (mjR (mjR (mjR (mjR (mjR (mjU I 43 9 1) 53 (va_cpy (I 44) (I 53) 0 0 4)) 54 (va_cpy (I 45) (I 54) 0 0 5)) 55 (va_cpy (I 46) (I 55) 0 0 5)) 56 (va_cpy (I 47) (I 56) 0 0 5)) 57 (va_cpy (I 48) (I 57) 0 0 6)) 58 (va_cpy (I 49) (I 58) 0 0 6)) 59 (va_cpy (I 50) (I 59) 0 0 6)) X)) (fun _ => rfl) ?_
  refine mjGo.call (n := 2) (j := 134) (nx := 93) (o := none) (h' := mjH (mjR (mjR (mjR (mjR (mjR (mjR (mjR (mjR (mjU I 43 9 1) 53 (va_cpy (I 44) (I 53) 0 0 4)) 54 (va_cpy (I 45) (I 54) 0 0 5)) 55 (va_cpy (I 46) (I 55) 0 0 5)) 56 (va_cpy (I 47) (I 56) 0 0 5)) 57 (va_cpy (I 48) (I 57) 0 0 6)) 58 (va_cpy (I 49) (I 58) 0 0 6)) 59 (va_cpy (I 50) (I 59) 0 0 6)) 60 (va_cpy (I 51) (I 60) 0 0 6)) X) (fun _ => rfl) (c_move (f := I 51) (g := I 60) (n := 6) d (by decide) (by decide) rfl rfl rfl rfl rfl rfl) ?_
  show mjGo _ _ 93 ([some (.ref 43)], [], mjH (mjR (mjR (mjR (mjR (mjR (mjR (mjR (mjR (mjU I 43 9 1) 53 (va_cpy (I 44) (I 53) 0 0 4)) 54 (va_cpy (I 45) (I 54) 0 0 5)) 55 (va_cpy (I 46) (I 55) 0 0 5)) 56 (va_cpy (I 47) (I 56) 0 0 5)) 57 (va_cpy (I 48) (I 57) 0 0 6)) 58 (va_cpy (I 49) (I 58) 0 0 6)) 59 (va_cpy (I 50) (I 59) 0 0 6)) 60 (va_cpy (I 51) (I 60) 0 0 6)) X) _
  refine mjGo.run 4 (pc' := 101) (F' := ([some (.ref 43)], [.ref 61, .ref 52], mjH (mjR (mjR (mjR (mjR (mjR (mjR (mjR (mjR (mjU I 43 9 1) 53 (va_cpy (I 44) (I 53) 0 0 4)) 54 (va_cpy (I 45) (I 54) 0 0 5)) 55 (va_cpy (I 46) (I 55) 0 0 5)) 56 (va_cpy (I 47) (I 56) 0 0 5)) 57 (va_cpy (I 48) (I 57) 0 0 6)) 58 (va_cpy (I 49) (I 58) 0 0 6)) 59 (va_cpy (I 50) (I 59) 0 0 6)) 60 (va_cpy (I 51) (I 60) 0 0 6)) X)) (fun _ => rfl) ?_
  refine mjGo.call (n := 2) (j := 134) (nx := 104) (o := none) (h' := mjH (mjR (mjR (mjR (mjR (mjR (mjR (mjR (mjR (mjR (mjU I 43 9 1) 53 (va_cpy (I 44) (I 53) 0 0 4)) 54 (va_cpy (I 45) (I 54) 0 0 5)) 55 (va_cpy (I 46) (I 55) 0 0 5)) 56 (va_cpy (I 47) (I 56) 0 0 5)) 57 (va_cpy (I 48) (I 57) 0 0 6)) 58 (va_cpy (I 49) (I 58) 0 0 6)) 59 (va_cpy (I 50) (I 59) 0 0 6)) 60 (va_cpy (I 51) (I 60) 0 0 6)) 61 (va_cpy (I 52) (I 61) 0 0 8)) X) (fun _ => rfl) (c_move (f := I 52) (g := I 61) (n := 8) d (by decide) (by decide) rfl rfl rfl rfl rfl rfl) ?_
  show mjGo _ _ 104 ([some (.ref 43)], [], mjH (mjR (mjR (mjR (mjR (mjR (mjR (mjR (mjR (mjR (mjU I 43 9 1) 53 (va_cpy (I 44) (I 53) 0 0 4)) 54 (va_cpy (I 45) (I 54) 0 0 5)) 55 (va_cpy (I 46) (I 55) 0 0 5)) 56 (va_cpy (I 47) (I 56) 0 0 5)) 57 (va_cpy (I 48) (I 57) 0 0 6)) 58 (va_cpy (I 49) (I 58) 0 0 6)) 59 (va_cpy (I 50) (I 59) 0 0 6)) 60 (va_cpy (I 51) (I 60) 0 0 6)) 61 (va_cpy (I 52) (I 61) 0 0 8)) X) _
  refine mjGo.run 4 (pc' := 110) (F' := ([some (.ref 43)], [.int ((mjR (mjR (mjR (mjR (mjR (mjR (mjR (mjR (mjR (mjU I 43 9 1) 53 (va_cpy (I 44) (I 53) 0 0 4)) 54 (va_cpy (I 45) (I 54) 0 0 5)) 55 (va_cpy (I 46) (I 55) 0 0 5)) 56 (va_cpy (I 47) (I 56) 0 0 5)) 57 (va_cpy (I 48) (I 57) 0 0 6)) 58 (va_cpy (I 49) (I 58) 0 0 6)) 59 (va_cpy (I 50) (I 59) 0 0 6)) 60 (va_cpy (I 51) (I 60) 0 0 6)) 61 (va_cpy (I 52) (I 61) 0 0 8)) 44 1)], mjH (mjR (mjR (mjR (mjR (mjR (mjR (mjR (mjR (mjR (mjU I 43 9 1) 53 (va_cpy (I 44) (I 53) 0 0 4)) 54 (va_cpy (I 45) (I 54) 0 0 5)) 55 (va_cpy (I 46) (I 55) 0 0 5)) 56 (va_cpy (I 47) (I 56) 0 0 5)) 57 (va_cpy (I 48) (I 57) 0 0 6)) 58 (va_cpy (I 49) (I 58) 0 0 6)) 59 (va_cpy (I 50) (I 59) 0 0 6)) 60 (va_cpy (I 51) (I 60) 0 0 6)) 61 (va_cpy (I 52) (I 61) 0 0 8)) X)) (fun _ => rfl) ?_
  refine mjGo.run 0 (pc' := 110) (F' := ([some (.ref 43)], [.int ((mjR (mjR (mjR (mjR (mjR (mjR (mjR (mjR (mjR (mjU I 43 9 1) 53 (va_cpy (I 44) (I 53) 0 0 4)) 54 (va_cpy (I 45) (I 54) 0 0 5)) 55 (va_cpy (I 46) (I 55) 0 0 5)) 56 (va_cpy (I 47) (I 56) 0 0 5)) 57 (va_cpy (I 48) (I 57) 0 0 6)) 58 (va_cpy (I 49) (I 58) 0 0 6)) 59 (va_cpy (I 50) (I 59) 0 0 6)) 60 (va_cpy (I 51) (I 60) 0 0 6)) 61 (va_cpy (I 52) (I 61) 0 0 8)) 44 1)], mjH (mjR (mjR (mjR (mjR (mjR (mjR (mjR (mjR (mjR (mjU I 43 9 1) 53 (va_cpy (I 44) (I 53) 0 0 4)) 54 (va_cpy (I 45) (I 54) 0 0 5)) 55 (va_cpy (I 46) (I 55) 0 0 5)) 56 (va_cpy (I 47) (I 56) 0 0 5)) 57 (va_cpy (I 48) (I 57) 0 0 6)) 58 (va_cpy (I 49) (I 58) 0 0 6)) 59 (va_cpy (I 50) (I 59) 0 0 6)) 60 (va_cpy (I 51) (I 60) 0 0 6)) 61 (va_cpy (I 52) (I 61) 0 0 8)) X)) (fun _ => rfl) ?_
  rw [show ((mjR (mjR (mjR (mjR (mjR (mjR (mjR (mjR (mjR (mjU I 43 9 1) 53 (va_cpy (I 44) (I 53) 0 0 4)) 54 (va_cpy (I 45) (I 54) 0 0 5)) 55 (va_cpy (I 46) (I 55) 0 0 5)) 56 (va_cpy (I 47) (I 56) 0 0 5)) 57 (va_cpy (I 48) (I 57) 0 0 6)) 58 (va_cpy (I 49) (I 58) 0 0 6)) 59 (va_cpy (I 50) (I 59) 0 0 6)) 60 (va_cpy (I 51) (I 60) 0 0 6)) 61 (va_cpy (I 52) (I 61) 0 0 8)) 44 1) = (I 44 1) from rfl]
  exact mjGo.ret 1 (fun _ => rfl) rfl
theorem c_mRest1 (d : Nat) {I : Nat → Nat → Int32} {X : MX} (h : I 43 9 = 1) : mjEv (d + 1) nyX12_restore [.ref 43] (mjH I X) (.inl (some (.int (I 53 1)))) (mjH (mvI44_53 I) X) := by
  refine mjEv.of ?_
  show mjGo (d + 1) nyX12_restore 0 ([some (.ref 43)], [], mjH I X) _
  refine mjGo.run 2 (pc' := 4) (F' := ([some (.ref 43)], [.int (I 43 9)], mjH I X)) (fun _ => rfl) ?_
  refine mjGo.run 1 (pc' := (bif decide ((I 43 9) ≠ 0) then 10 else 7)) (F' := ([some (.ref 43)], [], mjH I X)) (fun _ => rfl) ?_
  refine mjGo.brT (by rw [h]; decide) ?_
  show mjGo _ _ 10 _ _
  refine mjGo.run 4 (pc' := 18) (F' := ([some (.ref 43)], [.ref 44, .ref 53], mjH I X)) (fun _ => rfl) ?_
  refine mjGo.call (n := 2) (j := 134) (nx := 21) (o := none) (h' := mjH (mjR I 44 (va_cpy (I 53) (I 44) 0 0 4)) X) (fun _ => rfl) (c_move (f := I 53) (g := I 44) (n := 4) d (by decide) (by decide) rfl rfl rfl rfl rfl rfl) ?_
  show mjGo _ _ 21 ([some (.ref 43)], [], mjH (mjR I 44 (va_cpy (I 53) (I 44) 0 0 4)) X) _
  refine mjGo.run 4 (pc' := 29) (F' := ([some (.ref 43)], [.ref 45, .ref 54], mjH (mjR I 44 (va_cpy (I 53) (I 44) 0 0 4)) X)) (fun _ => rfl) ?_
  refine mjGo.call (n := 2) (j := 134) (nx := 32) (o := none) (h' := mjH (mjR (mjR I 44 (va_cpy (I 53) (I 44) 0 0 4)) 45 (va_cpy (I 54) (I 45) 0 0 5)) X) (fun _ => rfl) (c_move (f := I 54) (g := I 45) (n := 5) d (by decide) (by decide) rfl rfl rfl rfl rfl rfl) ?_
  show mjGo _ _ 32 ([some (.ref 43)], [], mjH (mjR (mjR I 44 (va_cpy (I 53) (I 44) 0 0 4)) 45 (va_cpy (I 54) (I 45) 0 0 5)) X) _
  refine mjGo.run 4 (pc' := 40) (F' := ([some (.ref 43)], [.ref 46, .ref 55], mjH (mjR (mjR I 44 (va_cpy (I 53) (I 44) 0 0 4)) 45 (va_cpy (I 54) (I 45) 0 0 5)) X)) (fun _ => rfl) ?_
  refine mjGo.call (n := 2) (j := 134) (nx := 43) (o := none) (h' := mjH (mjR (mjR (mjR I 44 (va_cpy (I 53) (I 44) 0 0 4)) 45 (va_cpy (I 54) (I 45) 0 0 5)) 46 (va_cpy (I 55) (I 46) 0 0 5)) X) (fun _ => rfl) (c_move (f := I 55) (g := I 46) (n := 5) d (by decide) (by decide) rfl rfl rfl rfl rfl rfl) ?_
  show mjGo _ _ 43 ([some (.ref 43)], [], mjH (mjR (mjR (mjR I 44 (va_cpy (I 53) (I 44) 0 0 4)) 45 (va_cpy (I 54) (I 45) 0 0 5)) 46 (va_cpy (I 55) (I 46) 0 0 5)) X) _
  refine mjGo.run 4 (pc' := 51) (F' := ([some (.ref 43)], [.ref 47, .ref 56], mjH (mjR (mjR (mjR I 44 (va_cpy (I 53) (I 44) 0 0 4)) 45 (va_cpy (I 54) (I 45) 0 0 5)) 46 (va_cpy (I 55) (I 46) 0 0 5)) X)) (fun _ => rfl) ?_
  refine mjGo.call (n := 2) (j := 134) (nx := 54) (o := none) (h' := mjH (mjR (mjR (mjR (mjR I 44 (va_cpy (I 53) (I 44) 0 0 4)) 45 (va_cpy (I 54) (I 45) 0 0 5)) 46 (va_cpy (I 55) (I 46) 0 0 5)) 47 (va_cpy (I 56) (I 47) 0 0 5)) X) (fun _ => rfl) (c_move (f := I 56) (g := I 47) (n := 5) d (by decide) (by decide) rfl rfl rfl rfl rfl rfl) ?_
  show mjGo _ _ 54 ([some (.ref 43)], [], mjH (mjR (mjR (mjR (mjR I 44 (va_cpy (I 53) (I 44) 0 0 4)) 45 (va_cpy (I 54) (I 45) 0 0 5)) 46 (va_cpy (I 55) (I 46) 0 0 5)) 47 (va_cpy (I 56) (I 47) 0 0 5)) X) _
  refine mjGo.run 4 (pc' := 62) (F' := ([some (.ref 43)], [.ref 48, .ref 57], mjH (mjR (mjR (mjR (mjR I 44 (va_cpy (I 53) (I 44) 0 0 4)) 45 (va_cpy (I 54) (I 45) 0 0 5)) 46 (va_cpy (I 55) (I 46) 0 0 5)) 47 (va_cpy (I 56) (I 47) 0 0 5)) X)) (fun _ => rfl) ?_
  refine mjGo.call (n := 2) (j := 134) (nx := 65) (o := none) (h' := mjH (mjR (mjR (mjR (mjR (mjR I 44 (va_cpy (I 53) (I 44) 0 0 4)) 45 (va_cpy (I 54) (I 45) 0 0 5)) 46 (va_cpy (I 55) (I 46) 0 0 5)) 47 (va_cpy (I 56) (I 47) 0 0 5)) 48 (va_cpy (I 57) (I 48) 0 0 6)) X) (fun _ => rfl) (c_move (f := I 57) (g := I 48) (n := 6) d (by decide) (by decide) rfl rfl rfl rfl rfl rfl) ?_
  show mjGo _ _ 65 ([some (.ref 43)], [], mjH (mjR (mjR (mjR (mjR (mjR I 44 (va_cpy (I 53) (I 44) 0 0 4)) 45 (va_cpy (I 54) (I 45) 0 0 5)) 46 (va_cpy (I 55) (I 46) 0 0 5)) 47 (va_cpy (I 56) (I 47) 0 0 5)) 48 (va_cpy (I 57) (I 48) 0 0 6)) X) _
  refine mjGo.run 4 (pc' := 73) (F' := ([some (.ref 43)], [.ref 49, .ref 58], mjH (mjR (mjR (mjR (mjR (mjR I 44 (va_cpy (I 53) (I 44) 0 0 4)) 45 (va_cpy (I 54) (I 45) 0 0 5)) 46 (va_cpy (I 55) (I 46) 0 0 5)) 47 (va_cpy (I 56) (I 47) 0 0 5)) 48 (va_cpy (I 57) (I 48) 0 0 6)) X)) (fun _ => rfl) ?_
  refine mjGo.call (n := 2) (j := 134) (nx := 76) (o := none) (h' := mjH (mjR (mjR (mjR (mjR (mjR (mjR I 44 (va_cpy (I 53) (I 44) 0 0 4)) 45 (va_cpy (I 54) (I 45) 0 0 5)) 46 (va_cpy (I 55) (I 46) 0 0 5)) 47 (va_cpy (I 56) (I 47) 0 0 5)) 48 (va_cpy (I 57) (I 48) 0 0 6)) 49 (va_cpy (I 58) (I 49) 0 0 6)) X) (fun _ => rfl) (c_move (f := I 58) (g := I 49) (n := 6) d (by decide) (by decide) rfl rfl rfl rfl rfl rfl) ?_
  show mjGo _ _ 76 ([some (.ref 43)], [], mjH (mjR (mjR (mjR (mjR (mjR (mjR I 44 (va_cpy (I 53) (I 44) 0 0 4)) 45 (va_cpy (I 54) (I 45) 0 0 5)) 46 (va_cpy (I 55) (I 46) 0 0 5)) 47 (va_cpy (I 56) (I 47) 0 0 5)) 48 (va_cpy (I 57) (I 48) 0 0 6)) 49 (va_cpy (I 58) (I 49) 0 0 6)) X) _
  refine mjGo.run 4 (pc' := 84) (F' := ([some (.ref 43)], [.ref 50, .ref 59], mjH (mjR (mjR (mjR (mjR (mjR (mjR I 44 (va_cpy (I 53) (I 44) 0 0 4)) 45 (va_cpy (I 54) (I 45) 0 0 5)) 46 (va_cpy (I 55) (I 46) 0 0 5)) 47 (va_cpy (I 56) (I 47) 0 0 5)) 48 (va_cpy (I 57) (I 48) 0 0 6)) 49 (va_cpy (I 58) (I 49) 0 0 6)) X)) (fun _ => rfl) ?_
  refine mjGo.call (n := 2) (j := 134) (nx := 87) (o := none) (h' := mjH (mjR (mjR (mjR (mjR (mjR (mjR (mjR I 44 (va_cpy (I 53) (I 44) 0 0 4)) 45 (va_cpy (I 54) (I 45) 0 0 5)) 46 (va_cpy (I 55) (I 46) 0 0 5)) 47 (va_cpy (I 56) (I 47) 0 0 5)) 48 (va_cpy (I 57) (I 48) 0 0 6)) 49 (va_cpy (I 58) (I 49) 0 0 6)) 50 (va_cpy (I 59) (I 50) 0 0 6)) X) (fun _ => rfl) (c_move (f := I 59) (g := I 50) (n := 6) d (by decide) (by decide) rfl rfl rfl rfl rfl rfl) ?_
  show mjGo _ _ 87 ([some (.ref 43)], [], mjH (mjR (mjR (mjR (mjR (mjR (mjR (mjR I 44 (va_cpy (I 53) (I 44) 0 0 4)) 45 (va_cpy (I 54) (I 45) 0 0 5)) 46 (va_cpy (I 55) (I 46) 0 0 5)) 47 (va_cpy (I 56) (I 47) 0 0 5)) 48 (va_cpy (I 57) (I 48) 0 0 6)) 49 (va_cpy (I 58) (I 49) 0 0 6)) 50 (va_cpy (I 59) (I 50) 0 0 6)) X) _
  refine mjGo.run 4 (pc' := 95) (F' := ([some (.ref 43)], [.ref 51, .ref 60], mjH (mjR (mjR (mjR (mjR (mjR (mjR (mjR I 44 (va_cpy (I 53) (I 44) 0 0 4)) 45 (va_cpy (I 54) (I 45) 0 0 5)) 46 (va_cpy (I 55) (I 46) 0 0 5)) 47 (va_cpy (I 56) (I 47) 0 0 5)) 48 (va_cpy (I 57) (I 48) 0 0 6)) 49 (va_cpy (I 58) (I 49) 0 0 6)) 50 (va_cpy (I 59) (I 50) 0 0 6)) X)) (fun _ => rfl) ?_
  refine mjGo.call (n := 2) (j := 134) (nx := 98) (o := none) (h' := mjH (mjR (mjR (mjR (mjR (mjR (mjR (mjR (mjR I 44 (va_cpy (I 53) (I 44) 0 0 4)) 45 (va_cpy (I 54) (I 45) 0 0 5)) 46 (va_cpy (I 55) (I 46) 0 0 5)) 47 (va_cpy (I 56) (I 47) 0 0 5)) 48 (va_cpy (I 57) (I 48) 0 0 6)) 49 (va_cpy (I 58) (I 49) 0 0 6)) 50 (va_cpy (I 59) (I 50) 0 0 6)) 51 (va_cpy (I 60) (I 51) 0 0 6)) X) (fun _ => rfl) (c_move (f := I 60) (g := I 51) (n := 6) d (by decide) (by decide) rfl rfl rfl rfl rfl rfl) ?_
  show mjGo _ _ 98 ([some (.ref 43)], [], mjH (mjR (mjR (mjR (mjR (mjR (mjR (mjR (mjR I 44 (va_cpy (I 53) (I 44) 0 0 4)) 45 (va_cpy (I 54) (I 45) 0 0 5)) 46 (va_cpy (I 55) (I 46) 0 0 5)) 47 (va_cpy (I 56) (I 47) 0 0 5)) 48 (va_cpy (I 57) (I 48) 0 0 6)) 49 (va_cpy (I 58) (I 49) 0 0 6)) 50 (va_cpy (I 59) (I 50) 0 0 6)) 51 (va_cpy (I 60) (I 51) 0 0 6)) X) _
  refine mjGo.run 4 (pc' := 106) (F' := ([some (.ref 43)], [.ref 52, .ref 61], mjH (mjR (mjR (mjR (mjR (mjR (mjR (mjR (mjR I 44 (va_cpy (I 53) (I 44) 0 0 4)) 45 (va_cpy (I 54) (I 45) 0 0 5)) 46 (va_cpy (I 55) (I 46) 0 0 5)) 47 (va_cpy (I 56) (I 47) 0 0 5)) 48 (va_cpy (I 57) (I 48) 0 0 6)) 49 (va_cpy (I 58) (I 49) 0 0 6)) 50 (va_cpy (I 59) (I 50) 0 0 6)) 51 (va_cpy (I 60) (I 51) 0 0 6)) X)) (fun _ => rfl) ?_
  refine mjGo.call (n := 2) (j := 134) (nx := 109) (o := none) (h' := mjH (mjR (mjR (mjR (mjR (mjR (mjR (mjR (mjR (mjR I 44 (va_cpy (I 53) (I 44) 0 0 4)) 45 (va_cpy (I 54) (I 45) 0 0 5)) 46 (va_cpy (I 55) (I 46) 0 0 5)) 47 (va_cpy (I 56) (I 47) 0 0 5)) 48 (va_cpy (I 57) (I 48) 0 0 6)) 49 (va_cpy (I 58) (I 49) 0 0 6)) 50 (va_cpy (I 59) (I 50) 0 0 6)) 51 (va_cpy (I 60) (I 51) 0 0 6)) 52 (va_cpy (I 61) (I 52) 0 0 8)) X) (fun _ => rfl) (c_move (f := I 61) (g := I 52) (n := 8) d (by decide) (by decide) rfl rfl rfl rfl rfl rfl) ?_
  show mjGo _ _ 109 ([some (.ref 43)], [], mjH (mjR (mjR (mjR (mjR (mjR (mjR (mjR (mjR (mjR I 44 (va_cpy (I 53) (I 44) 0 0 4)) 45 (va_cpy (I 54) (I 45) 0 0 5)) 46 (va_cpy (I 55) (I 46) 0 0 5)) 47 (va_cpy (I 56) (I 47) 0 0 5)) 48 (va_cpy (I 57) (I 48) 0 0 6)) 49 (va_cpy (I 58) (I 49) 0 0 6)) 50 (va_cpy (I 59) (I 50) 0 0 6)) 51 (va_cpy (I 60) (I 51) 0 0 6)) 52 (va_cpy (I 61) (I 52) 0 0 8)) X) _
  refine mjGo.run 4 (pc' := 115) (F' := ([some (.ref 43)], [.int ((mjR (mjR (mjR (mjR (mjR (mjR (mjR (mjR (mjR I 44 (va_cpy (I 53) (I 44) 0 0 4)) 45 (va_cpy (I 54) (I 45) 0 0 5)) 46 (va_cpy (I 55) (I 46) 0 0 5)) 47 (va_cpy (I 56) (I 47) 0 0 5)) 48 (va_cpy (I 57) (I 48) 0 0 6)) 49 (va_cpy (I 58) (I 49) 0 0 6)) 50 (va_cpy (I 59) (I 50) 0 0 6)) 51 (va_cpy (I 60) (I 51) 0 0 6)) 52 (va_cpy (I 61) (I 52) 0 0 8)) 44 1)], mjH (mjR (mjR (mjR (mjR (mjR (mjR (mjR (mjR (mjR I 44 (va_cpy (I 53) (I 44) 0 0 4)) 45 (va_cpy (I 54) (I 45) 0 0 5)) 46 (va_cpy (I 55) (I 46) 0 0 5)) 47 (va_cpy (I 56) (I 47) 0 0 5)) 48 (va_cpy (I 57) (I 48) 0 0 6)) 49 (va_cpy (I 58) (I 49) 0 0 6)) 50 (va_cpy (I 59) (I 50) 0 0 6)) 51 (va_cpy (I 60) (I 51) 0 0 6)) 52 (va_cpy (I 61) (I 52) 0 0 8)) X)) (fun _ => rfl) ?_
  refine mjGo.run 0 (pc' := 115) (F' := ([some (.ref 43)], [.int ((mjR (mjR (mjR (mjR (mjR (mjR (mjR (mjR (mjR I 44 (va_cpy (I 53) (I 44) 0 0 4)) 45 (va_cpy (I 54) (I 45) 0 0 5)) 46 (va_cpy (I 55) (I 46) 0 0 5)) 47 (va_cpy (I 56) (I 47) 0 0 5)) 48 (va_cpy (I 57) (I 48) 0 0 6)) 49 (va_cpy (I 58) (I 49) 0 0 6)) 50 (va_cpy (I 59) (I 50) 0 0 6)) 51 (va_cpy (I 60) (I 51) 0 0 6)) 52 (va_cpy (I 61) (I 52) 0 0 8)) 44 1)], mjH (mjR (mjR (mjR (mjR (mjR (mjR (mjR (mjR (mjR I 44 (va_cpy (I 53) (I 44) 0 0 4)) 45 (va_cpy (I 54) (I 45) 0 0 5)) 46 (va_cpy (I 55) (I 46) 0 0 5)) 47 (va_cpy (I 56) (I 47) 0 0 5)) 48 (va_cpy (I 57) (I 48) 0 0 6)) 49 (va_cpy (I 58) (I 49) 0 0 6)) 50 (va_cpy (I 59) (I 50) 0 0 6)) 51 (va_cpy (I 60) (I 51) 0 0 6)) 52 (va_cpy (I 61) (I 52) 0 0 8)) X)) (fun _ => rfl) ?_
  rw [show ((mjR (mjR (mjR (mjR (mjR (mjR (mjR (mjR (mjR I 44 (va_cpy (I 53) (I 44) 0 0 4)) 45 (va_cpy (I 54) (I 45) 0 0 5)) 46 (va_cpy (I 55) (I 46) 0 0 5)) 47 (va_cpy (I 56) (I 47) 0 0 5)) 48 (va_cpy (I 57) (I 48) 0 0 6)) 49 (va_cpy (I 58) (I 49) 0 0 6)) 50 (va_cpy (I 59) (I 50) 0 0 6)) 51 (va_cpy (I 60) (I 51) 0 0 6)) 52 (va_cpy (I 61) (I 52) 0 0 8)) 44 1) = (I 53 1) from rfl]
  exact mjGo.ret 1 (fun _ => rfl) rfl
theorem c_mRest0 (d : Nat) {I : Nat → Nat → Int32} {X : MX} (h : I 43 9 = 0) : mjEv (d + 1) nyX12_restore [.ref 43] (mjH I X) (.inl (some (.int (-3)))) (mjH I X) := by
  refine mjEv.of ?_
  show mjGo (d + 1) nyX12_restore 0 ([some (.ref 43)], [], mjH I X) _
  refine mjGo.run 2 (pc' := 4) (F' := ([some (.ref 43)], [.int (I 43 9)], mjH I X)) (fun _ => rfl) ?_
  refine mjGo.run 1 (pc' := (bif decide ((I 43 9) ≠ 0) then 10 else 7)) (F' := ([some (.ref 43)], [], mjH I X)) (fun _ => rfl) ?_
  refine mjGo.brF (by rw [h]; decide) ?_
  show mjGo _ _ 7 _ _
  exact mjGo.ret 2 (fun _ => rfl) rfl
theorem c_xImage (d : Nat) {I : Nat → Nat → Int32} {X : MX} (hA : ∀ i, i < 6 → X.1 5 i = none ∨ ∃ a kd, X.1 5 i = some a ∧ lkK X a kd) : mjEv (d + 1) nyX11_image [.ref 0] (mjH I X) (.inl (some (.int (I 1 6)))) (mjH (mjU (bcI13_1 I) 0 3 1) (cpP X 17 5 6)) := by
  refine mjEv.of ?_
  show mjGo (d + 1) nyX11_image 0 ([some (.ref 0)], [], mjH I X) _
  refine mjGo.run 4 (pc' := 8) (F' := ([some (.ref 0)], [.ref 1, .ref 13], mjH I X)) (fun _ => rfl) ?_
  refine mjGo.call (n := 2) (j := 67) (nx := 11) (o := none) (h' := mjH (bcI13_1 I) (cpP X 17 5 6)) (fun _ => rfl) (c_bc13_1 d hA) ?_
  show mjGo _ _ 11 ([some (.ref 0)], [], mjH (bcI13_1 I) (cpP X 17 5 6)) _
  refine mjGo.run 6 (pc' := 23) (F' := ([some (.ref 0)], [.int ((bcI13_1 I) 1 6)], mjH (mjU (bcI13_1 I) 0 3 1) (cpP X 17 5 6))) (fun _ => rfl) ?_
  refine mjGo.run 0 (pc' := 23) (F' := ([some (.ref 0)], [.int ((bcI13_1 I) 1 6)], mjH (mjU (bcI13_1 I) 0 3 1) (cpP X 17 5 6))) (fun _ => rfl) ?_
  rw [show ((bcI13_1 I) 1 6) = (I 1 6) from rfl]
  exact mjGo.ret 1 (fun _ => rfl) rfl
theorem c_xRest1 (d : Nat) {I : Nat → Nat → Int32} {X : MX} (h : I 0 3 = 1) (hA : ∀ i, i < 6 → X.1 17 i = none ∨ ∃ a kd, X.1 17 i = some a ∧ lkK X a kd) : mjEv (d + 1) nyX11_restore [.ref 0] (mjH I X) (.inl (some (.int (I 13 6)))) (mjH (bcI1_13 I) (cpP X 5 17 6)) := by
  refine mjEv.of ?_
  show mjGo (d + 1) nyX11_restore 0 ([some (.ref 0)], [], mjH I X) _
  refine mjGo.run 2 (pc' := 4) (F' := ([some (.ref 0)], [.int (I 0 3)], mjH I X)) (fun _ => rfl) ?_
  refine mjGo.run 1 (pc' := (bif decide ((I 0 3) ≠ 0) then 10 else 7)) (F' := ([some (.ref 0)], [], mjH I X)) (fun _ => rfl) ?_
  refine mjGo.brT (by rw [h]; decide) ?_
  show mjGo _ _ 10 _ _
  refine mjGo.run 4 (pc' := 18) (F' := ([some (.ref 0)], [.ref 13, .ref 1], mjH I X)) (fun _ => rfl) ?_
  refine mjGo.call (n := 2) (j := 67) (nx := 21) (o := none) (h' := mjH (bcI1_13 I) (cpP X 5 17 6)) (fun _ => rfl) (c_bc1_13 d hA) ?_
  show mjGo _ _ 21 ([some (.ref 0)], [], mjH (bcI1_13 I) (cpP X 5 17 6)) _
  refine mjGo.run 3 (pc' := 28) (F' := ([some (.ref 0)], [.int ((bcI1_13 I) 1 6)], mjH (bcI1_13 I) (cpP X 5 17 6))) (fun _ => rfl) ?_
  refine mjGo.run 0 (pc' := 28) (F' := ([some (.ref 0)], [.int ((bcI1_13 I) 1 6)], mjH (bcI1_13 I) (cpP X 5 17 6))) (fun _ => rfl) ?_
  rw [show ((bcI1_13 I) 1 6) = (I 13 6) from rfl]
  exact mjGo.ret 1 (fun _ => rfl) rfl
theorem c_xRest0 (d : Nat) {I : Nat → Nat → Int32} {X : MX} (h : I 0 3 = 0) : mjEv (d + 1) nyX11_restore [.ref 0] (mjH I X) (.inl (some (.int (-3)))) (mjH I X) := by
  refine mjEv.of ?_
  show mjGo (d + 1) nyX11_restore 0 ([some (.ref 0)], [], mjH I X) _
  refine mjGo.run 2 (pc' := 4) (F' := ([some (.ref 0)], [.int (I 0 3)], mjH I X)) (fun _ => rfl) ?_
  refine mjGo.run 1 (pc' := (bif decide ((I 0 3) ≠ 0) then 10 else 7)) (F' := ([some (.ref 0)], [], mjH I X)) (fun _ => rfl) ?_
  refine mjGo.brF (by rw [h]; decide) ?_
  show mjGo _ _ 7 _ _
  exact mjGo.ret 2 (fun _ => rfl) rfl
