/-! row -/
def zf (I : Nat → Nat → Int32) (k lo n : Nat) : Nat → Nat → Int32 := fun a b => if a = k then (if lo ≤ b ∧ b < lo + n then 0 else I a b) else I a b
theorem zf_0 {I : Nat → Nat → Int32} {k lo : Nat} : zf I k lo 0 = I := by
  funext a b
  unfold zf
  split
  · rw [if_neg (by omega)]
  · rfl
theorem zf_s {I : Nat → Nat → Int32} {k lo n : Nat} : mjU (zf I k lo n) k (lo + n) 0 = zf I k lo (n + 1) := by
  funext a b
  unfold mjU zf
  by_cases h : a = k
  · rw [if_pos h, if_pos h, if_pos h]
    by_cases h2 : b = lo + n
    · rw [if_pos h2, if_pos (by omega)]
    · rw [if_neg h2]
      by_cases h3 : lo ≤ b ∧ b < lo + n
      · rw [if_pos h3, if_pos (by omega)]
      · rw [if_neg h3, if_neg (by omega)]
  · rw [if_neg h, if_neg h, if_neg h]
theorem row_alen {I : Nat → Nat → Int32} {X : MX} {e nx : Nat} {al : List (Option Value)} {st : List Value} {call : MCall} (he : e < 8) : mjalen nx call (al, .ref (28 + 2 * e) :: st, mjH I X) = some (.inl (nx, (al, .int 100 :: st, mjH I X))) := by
  unfold mjalen
  show (bif Nat.blt (28 + 2 * e) (mjN (mjH I X)) && Nat.ble 13 (mjT (mjH I X) (28 + 2 * e)).1 then (some (.inl (nx, (al, .int (Int32.ofNat (mjT (mjH I X) (28 + 2 * e)).2) :: st, mjH I X))) : Option ((Nat × MF) ⊕ (MO × MH))) else none) = _
  rw [(row_T he).2.1, Nat.blt_eq.mpr (row_N he).2]
  rfl
theorem fill_loop {d e : Nat} {I : Nat → Nat → Int32} {X : MX} (he : e < 8) : ∀ (k j : Nat), j + k = 100 → mjGo d nyJ7_fill_53178 5 ([some (.ref (28 + 2 * e)), some (.int 0), some (.int (nI j)), some (.int 100)], [], mjH (zf I (28 + 2 * e) 0 j) X) (fun x => x = (.inl none, mjH (zf I (28 + 2 * e) 0 100) X)) := by
  intro k
  induction k with
  | zero =>
    intro j hj
    have e1 : j = 100 := by omega
    subst e1
    exact mjGo.ret 4 (fun _ => rfl) rfl
  | succ k ih =>
    intro j hj
    refine mjGo.run 2 (pc' := 7) (F' := ([some (.ref (28 + 2 * e)), some (.int 0), some (.int (nI j)), some (.int 100)], [.int 100, .int (nI j)], mjH (zf I (28 + 2 * e) 0 j) X)) (fun _ => rfl) ?_
    refine mjGo.run 1 (pc' := (bif decide (100 ≤ (nI j)) then 20 else 10)) (F' := ([some (.ref (28 + 2 * e)), some (.int 0), some (.int (nI j)), some (.int 100)], [], mjH (zf I (28 + 2 * e) 0 j) X)) (fun _ => rfl) ?_
    refine mjGo.brF (show ¬ 100 ≤ (nI j) by rw [show (100 : Int32) = nI 100 from rfl, nI_leI (by omega) (by omega)]; omega) ?_
    show mjGo _ _ 10 _ _
    refine mjGo.run 3 (pc' := 13) (F' := ([some (.ref (28 + 2 * e)), some (.int 0), some (.int (nI j)), some (.int 100)], [.int 0, .int (nI j), .ref (28 + 2 * e)], mjH (zf I (28 + 2 * e) 0 j) X)) (fun _ => rfl) ?_
    refine mjGo.op (pc' := 14) (F' := ([some (.ref (28 + 2 * e)), some (.int 0), some (.int (nI j)), some (.int 100)], [], mjH (mjU (zf I (28 + 2 * e) 0 j) (28 + 2 * e) j 0) X)) (o := mjiast 14) rfl (fun _ => mjast_n (n := 100) (by omega) (by decide) ((row_arr he).1) ((row_arr he).2)) ?_
    refine mjGo.run 2 (pc' := 5) (F' := ([some (.ref (28 + 2 * e)), some (.int 0), some (.int ((nI j) + 1)), some (.int 100)], [], mjH (mjU (zf I (28 + 2 * e) 0 j) (28 + 2 * e) j 0) X)) (fun _ => rfl) ?_
    have k9 := ih (j + 1) (by omega)
    rw [← nI_1, ← zf_s, Nat.zero_add] at k9
    exact k9
theorem c_fill (d : Nat) {e : Nat} {I : Nat → Nat → Int32} {X : MX} (he : e < 8) : mjEv d nyJ7_fill_53178 [.ref (28 + 2 * e), .int 0] (mjH I X) (.inl none) (mjH (zf I (28 + 2 * e) 0 100) X) := by
  refine mjEv.of ?_
  show mjGo d nyJ7_fill_53178 0 ([some (.ref (28 + 2 * e)), some (.int 0), none, none], [], mjH I X) _
  refine mjGo.run 3 (pc' := 3) (F' := ([some (.ref (28 + 2 * e)), some (.int 0), some (.int 0), none], [.ref (28 + 2 * e)], mjH I X)) (fun _ => rfl) ?_
  refine mjGo.op (pc' := 4) (F' := ([some (.ref (28 + 2 * e)), some (.int 0), some (.int 0), none], [.int 100], mjH I X)) (o := mjalen 4) rfl (fun _ => row_alen he) ?_
  refine mjGo.run 1 (pc' := 5) (F' := ([some (.ref (28 + 2 * e)), some (.int 0), some (.int 0), some (.int 100)], [], mjH I X)) (fun _ => rfl) ?_
  have q := fill_loop (d := d) (I := I) (X := X) he 100 0 (by omega)
  rw [zf_0] at q
  exact q
theorem c_begin (d : Nat) {e : Nat} {s n : Int32} {I : Nat → Nat → Int32} {X : MX} (he : e < 8) : mjEv (d + 1) nyX6_begin [.ref (27 + 2 * e), .int s, .int n] (mjH I X) (.inl none) (mjH (zf (mjU (mjU I (27 + 2 * e) 1 s) (27 + 2 * e) 2 n) (28 + 2 * e) 0 100) X) := by
  refine mjEv.of ?_
  show mjGo (d + 1) nyX6_begin 0 ([some (.ref (27 + 2 * e)), some (.int s), some (.int n)], [], mjH I X) _
  refine mjGo.run 2 (pc' := 2) (F' := ([some (.ref (27 + 2 * e)), some (.int s), some (.int n)], [.int s, .ref (27 + 2 * e)], mjH I X)) (fun _ => rfl) ?_
  refine mjGo.op (pc' := 5) (F' := ([some (.ref (27 + 2 * e)), some (.int s), some (.int n)], [], mjH (mjU I (27 + 2 * e) 1 s) X)) (o := mjputI [6] 1 5) rfl (fun _ => row_putI he) ?_
  refine mjGo.run 2 (pc' := 7) (F' := ([some (.ref (27 + 2 * e)), some (.int s), some (.int n)], [.int n, .ref (27 + 2 * e)], mjH (mjU I (27 + 2 * e) 1 s) X)) (fun _ => rfl) ?_
  refine mjGo.op (pc' := 10) (F' := ([some (.ref (27 + 2 * e)), some (.int s), some (.int n)], [], mjH (mjU (mjU I (27 + 2 * e) 1 s) (27 + 2 * e) 2 n) X)) (o := mjputI [6] 2 10) rfl (fun _ => row_putI he) ?_
  refine mjGo.run 1 (pc' := 11) (F' := ([some (.ref (27 + 2 * e)), some (.int s), some (.int n)], [.ref (27 + 2 * e)], mjH (mjU (mjU I (27 + 2 * e) 1 s) (27 + 2 * e) 2 n) X)) (fun _ => rfl) ?_
  refine mjGo.op (pc' := 14) (F' := ([some (.ref (27 + 2 * e)), some (.int s), some (.int n)], [.ref (28 + 2 * e)], mjH (mjU (mjU I (27 + 2 * e) 1 s) (27 + 2 * e) 2 n) X)) (o := mjgetP [6] 0 14) rfl (fun _ => row_getP he) ?_
  refine mjGo.run 1 (pc' := 15) (F' := ([some (.ref (27 + 2 * e)), some (.int s), some (.int n)], [.int 0, .ref (28 + 2 * e)], mjH (mjU (mjU I (27 + 2 * e) 1 s) (27 + 2 * e) 2 n) X)) (fun _ => rfl) ?_
  refine mjGo.call (n := 2) (j := 0) (nx := 18) (o := none) (h' := mjH (zf (mjU (mjU I (27 + 2 * e) 1 s) (27 + 2 * e) 2 n) (28 + 2 * e) 0 100) X) (fun _ => rfl) (c_fill _ he) ?_
  show mjGo _ _ 18 ([some (.ref (27 + 2 * e)), some (.int s), some (.int n)], [], mjH (zf (mjU (mjU I (27 + 2 * e) 1 s) (27 + 2 * e) 2 n) (28 + 2 * e) 0 100) X) _
  exact mjGo.ret 1 (fun _ => rfl) rfl
theorem c_xRowA (d : Nat) {q s n : Int32} {I : Nat → Nat → Int32} {X : MX} (hs : xShelf q = 0) : mjEv (d + 2) nyX11_row [.ref 0, .int q, .int s, .int n] (mjH I X) (.inl (some (.int (-1)))) (mjH I X) := by
  refine mjEv.of ?_
  show mjGo (d + 2) nyX11_row 0 ([some (.ref 0), some (.int q), some (.int s), some (.int n), none], [], mjH I X) _
  refine mjGo.run 1 (pc' := 1) (F' := ([some (.ref 0), some (.int q), some (.int s), some (.int n), none], [.int q], mjH I X)) (fun _ => rfl) ?_
  refine mjGo.call (n := 1) (j := 77) (nx := 4) (o := some (.int 0)) (h' := mjH I X) (fun _ => rfl) ((by have q9 := c_xShelf (d + 1) q (mjH I X); rw [hs] at q9; exact q9)) ?_
  show mjGo _ _ 4 ([some (.ref 0), some (.int q), some (.int s), some (.int n), none], [.int 0], mjH I X) _
  exact mjGo.ret 3 (fun _ => rfl) rfl
theorem c_xRowB (d : Nat) {e : Nat} {s n : Int32} {I : Nat → Nat → Int32} {X : MX} (he : e < 8) (hq : mIn s 0 2 = 0) : mjEv (d + 2) nyX11_row [.ref 0, .int (nI e), .int s, .int n] (mjH I X) (.inl (some (.int (-1)))) (mjH I X) := by
  refine mjEv.of ?_
  show mjGo (d + 2) nyX11_row 0 ([some (.ref 0), some (.int (nI e)), some (.int s), some (.int n), none], [], mjH I X) _
  refine mjGo.run 1 (pc' := 1) (F' := ([some (.ref 0), some (.int (nI e)), some (.int s), some (.int n), none], [.int (nI e)], mjH I X)) (fun _ => rfl) ?_
  refine mjGo.call (n := 1) (j := 77) (nx := 4) (o := some (.int 1)) (h' := mjH I X) (fun _ => rfl) ((by have q9 := c_xShelf (d + 1) (nI e) (mjH I X); rw [xShelf_1 he] at q9; exact q9)) ?_
  show mjGo _ _ 4 ([some (.ref 0), some (.int (nI e)), some (.int s), some (.int n), none], [.int 1], mjH I X) _
  refine mjGo.run 3 (pc' := (bif decide (s < 0) then 22 else 11)) (F' := ([some (.ref 0), some (.int (nI e)), some (.int s), some (.int n), none], [], mjH I X)) (fun _ => rfl) ?_
  refine mjGo.br (fun q1 => ?_) (fun q1 => ?_)
  · show mjGo _ _ 22 _ _
    exact mjGo.ret 2 (fun _ => rfl) rfl
  · show mjGo _ _ 11 _ _
    refine mjGo.run 3 (pc' := (bif decide (2 < s) then 22 else 16)) (F' := ([some (.ref 0), some (.int (nI e)), some (.int s), some (.int n), none], [], mjH I X)) (fun _ => rfl) ?_
    refine mjGo.br (fun q2 => ?_) (fun q2 => ?_)
    · show mjGo _ _ 22 _ _
      exact mjGo.ret 2 (fun _ => rfl) rfl
    · show mjGo _ _ 16 _ _
      refine mjGo.run 3 (pc' := (bif decide (n ≤ 100) then 24 else 22)) (F' := ([some (.ref 0), some (.int (nI e)), some (.int s), some (.int n), none], [], mjH I X)) (fun _ => rfl) ?_
      refine mjGo.br (fun q3 => ?_) (fun q3 => ?_)
      · show mjGo _ _ 24 _ _
        exfalso
        unfold mIn at hq
        rw [if_neg q1, if_neg q2] at hq
        exact absurd hq (by decide)
      · show mjGo _ _ 22 _ _
        exfalso
        unfold mIn at hq
        rw [if_neg q1, if_neg q2] at hq
        exact absurd hq (by decide)
theorem c_xRowC (d : Nat) {e so : Nat} {n : Int32} {I : Nat → Nat → Int32} {X : MX} (he : e < 8) (hso : so < 3) (hn : ¬ n ≤ 100) : mjEv (d + 2) nyX11_row [.ref 0, .int (nI e), .int (nI so), .int n] (mjH I X) (.inl (some (.int (-1)))) (mjH I X) := by
  refine mjEv.of ?_
  show mjGo (d + 2) nyX11_row 0 ([some (.ref 0), some (.int (nI e)), some (.int (nI so)), some (.int n), none], [], mjH I X) _
  refine mjGo.run 1 (pc' := 1) (F' := ([some (.ref 0), some (.int (nI e)), some (.int (nI so)), some (.int n), none], [.int (nI e)], mjH I X)) (fun _ => rfl) ?_
  refine mjGo.call (n := 1) (j := 77) (nx := 4) (o := some (.int 1)) (h' := mjH I X) (fun _ => rfl) ((by have q9 := c_xShelf (d + 1) (nI e) (mjH I X); rw [xShelf_1 he] at q9; exact q9)) ?_
  show mjGo _ _ 4 ([some (.ref 0), some (.int (nI e)), some (.int (nI so)), some (.int n), none], [.int 1], mjH I X) _
  refine mjGo.run 2 (pc' := 8) (F' := ([some (.ref 0), some (.int (nI e)), some (.int (nI so)), some (.int n), none], [.int (nI so)], mjH I X)) (fun _ => rfl) ?_
  refine mjGo.run 1 (pc' := (bif decide ((nI so) < 0) then 22 else 11)) (F' := ([some (.ref 0), some (.int (nI e)), some (.int (nI so)), some (.int n), none], [], mjH I X)) (fun _ => rfl) ?_
  refine mjGo.brF (show ¬ (nI so) < 0 by rw [show (0 : Int32) = nI 0 from rfl, nI_ltI (by omega) (by omega)]; omega) ?_
  show mjGo _ _ 11 _ _
  refine mjGo.run 2 (pc' := 13) (F' := ([some (.ref 0), some (.int (nI e)), some (.int (nI so)), some (.int n), none], [.int 2, .int (nI so)], mjH I X)) (fun _ => rfl) ?_
  refine mjGo.run 1 (pc' := (bif decide (2 < (nI so)) then 22 else 16)) (F' := ([some (.ref 0), some (.int (nI e)), some (.int (nI so)), some (.int n), none], [], mjH I X)) (fun _ => rfl) ?_
  refine mjGo.brF (show ¬ 2 < (nI so) by rw [show (2 : Int32) = nI 2 from rfl, nI_ltI (by omega) (by omega)]; omega) ?_
  show mjGo _ _ 16 _ _
  refine mjGo.run 3 (pc' := (bif decide (n ≤ 100) then 24 else 22)) (F' := ([some (.ref 0), some (.int (nI e)), some (.int (nI so)), some (.int n), none], [], mjH I X)) (fun _ => rfl) ?_
  refine mjGo.br (fun q1 => ?_) (fun q1 => ?_)
  · show mjGo _ _ 24 _ _
    first | exact absurd q1 hn | exact absurd hn q1 | (exfalso; simp_all; done)
  · show mjGo _ _ 22 _ _
    exact mjGo.ret 2 (fun _ => rfl) rfl
theorem c_xRowD (d : Nat) {e so : Nat} {n : Int32} {I : Nat → Nat → Int32} {X : MX} (he : e < 8) (hso : so < 3) (hn : n ≤ 100) (h0 : ¬ 0 ≤ n) : mjEv (d + 2) nyX11_row [.ref 0, .int (nI e), .int (nI so), .int n] (mjH I X) (.inl (some (.int (-14)))) (mjH I X) := by
  refine mjEv.of ?_
  show mjGo (d + 2) nyX11_row 0 ([some (.ref 0), some (.int (nI e)), some (.int (nI so)), some (.int n), none], [], mjH I X) _
  refine mjGo.run 1 (pc' := 1) (F' := ([some (.ref 0), some (.int (nI e)), some (.int (nI so)), some (.int n), none], [.int (nI e)], mjH I X)) (fun _ => rfl) ?_
  refine mjGo.call (n := 1) (j := 77) (nx := 4) (o := some (.int 1)) (h' := mjH I X) (fun _ => rfl) ((by have q9 := c_xShelf (d + 1) (nI e) (mjH I X); rw [xShelf_1 he] at q9; exact q9)) ?_
  show mjGo _ _ 4 ([some (.ref 0), some (.int (nI e)), some (.int (nI so)), some (.int n), none], [.int 1], mjH I X) _
  refine mjGo.run 2 (pc' := 8) (F' := ([some (.ref 0), some (.int (nI e)), some (.int (nI so)), some (.int n), none], [.int (nI so)], mjH I X)) (fun _ => rfl) ?_
  refine mjGo.run 1 (pc' := (bif decide ((nI so) < 0) then 22 else 11)) (F' := ([some (.ref 0), some (.int (nI e)), some (.int (nI so)), some (.int n), none], [], mjH I X)) (fun _ => rfl) ?_
  refine mjGo.brF (show ¬ (nI so) < 0 by rw [show (0 : Int32) = nI 0 from rfl, nI_ltI (by omega) (by omega)]; omega) ?_
  show mjGo _ _ 11 _ _
  refine mjGo.run 2 (pc' := 13) (F' := ([some (.ref 0), some (.int (nI e)), some (.int (nI so)), some (.int n), none], [.int 2, .int (nI so)], mjH I X)) (fun _ => rfl) ?_
  refine mjGo.run 1 (pc' := (bif decide (2 < (nI so)) then 22 else 16)) (F' := ([some (.ref 0), some (.int (nI e)), some (.int (nI so)), some (.int n), none], [], mjH I X)) (fun _ => rfl) ?_
  refine mjGo.brF (show ¬ 2 < (nI so) by rw [show (2 : Int32) = nI 2 from rfl, nI_ltI (by omega) (by omega)]; omega) ?_
  show mjGo _ _ 16 _ _
  refine mjGo.run 3 (pc' := (bif decide (n ≤ 100) then 24 else 22)) (F' := ([some (.ref 0), some (.int (nI e)), some (.int (nI so)), some (.int n), none], [], mjH I X)) (fun _ => rfl) ?_
  refine mjGo.br (fun q1 => ?_) (fun q1 => ?_)
  · show mjGo _ _ 24 _ _
    refine mjGo.run 2 (pc' := (bif decide (0 ≤ n) then 31 else 28)) (F' := ([some (.ref 0), some (.int (nI e)), some (.int (nI so)), some (.int n), none], [], mjH I X)) (fun _ => rfl) ?_
    refine mjGo.br (fun q2 => ?_) (fun q2 => ?_)
    · show mjGo _ _ 31 _ _
      first | exact absurd q2 h0 | exact absurd h0 q2 | (exfalso; simp_all; done)
    · show mjGo _ _ 28 _ _
      exact mjGo.ret 2 (fun _ => rfl) rfl
  · show mjGo _ _ 22 _ _
    first | exact absurd q1 hn | exact absurd hn q1 | (exfalso; simp_all; done)
theorem c_xRowE (d : Nat) {e so sz : Nat} {I : Nat → Nat → Int32} {X : MX} (he : e < 8) (hso : so < 3) (hz : sz ≤ 100) : mjEv (d + 3) nyX11_row [.ref 0, .int (nI e), .int (nI so), .int (nI sz)] (mjH I X) (.inl (some (.int 0))) (mjH (mjU (zf (mjU (mjU I (27 + 2 * e) 1 (nI so)) (27 + 2 * e) 2 (nI sz)) (28 + 2 * e) 0 100) 24 e 2) X) := by
  refine mjEv.of ?_
  show mjGo (d + 3) nyX11_row 0 ([some (.ref 0), some (.int (nI e)), some (.int (nI so)), some (.int (nI sz)), none], [], mjH I X) _
  refine mjGo.run 1 (pc' := 1) (F' := ([some (.ref 0), some (.int (nI e)), some (.int (nI so)), some (.int (nI sz)), none], [.int (nI e)], mjH I X)) (fun _ => rfl) ?_
  refine mjGo.call (n := 1) (j := 77) (nx := 4) (o := some (.int 1)) (h' := mjH I X) (fun _ => rfl) ((by have q9 := c_xShelf (d + 2) (nI e) (mjH I X); rw [xShelf_1 he] at q9; exact q9)) ?_
  show mjGo _ _ 4 ([some (.ref 0), some (.int (nI e)), some (.int (nI so)), some (.int (nI sz)), none], [.int 1], mjH I X) _
  refine mjGo.run 2 (pc' := 8) (F' := ([some (.ref 0), some (.int (nI e)), some (.int (nI so)), some (.int (nI sz)), none], [.int (nI so)], mjH I X)) (fun _ => rfl) ?_
  refine mjGo.run 1 (pc' := (bif decide ((nI so) < 0) then 22 else 11)) (F' := ([some (.ref 0), some (.int (nI e)), some (.int (nI so)), some (.int (nI sz)), none], [], mjH I X)) (fun _ => rfl) ?_
  refine mjGo.brF (show ¬ (nI so) < 0 by rw [show (0 : Int32) = nI 0 from rfl, nI_ltI (by omega) (by omega)]; omega) ?_
  show mjGo _ _ 11 _ _
  refine mjGo.run 2 (pc' := 13) (F' := ([some (.ref 0), some (.int (nI e)), some (.int (nI so)), some (.int (nI sz)), none], [.int 2, .int (nI so)], mjH I X)) (fun _ => rfl) ?_
  refine mjGo.run 1 (pc' := (bif decide (2 < (nI so)) then 22 else 16)) (F' := ([some (.ref 0), some (.int (nI e)), some (.int (nI so)), some (.int (nI sz)), none], [], mjH I X)) (fun _ => rfl) ?_
  refine mjGo.brF (show ¬ 2 < (nI so) by rw [show (2 : Int32) = nI 2 from rfl, nI_ltI (by omega) (by omega)]; omega) ?_
  show mjGo _ _ 16 _ _
  refine mjGo.run 2 (pc' := 19) (F' := ([some (.ref 0), some (.int (nI e)), some (.int (nI so)), some (.int (nI sz)), none], [.int 100, .int (nI sz)], mjH I X)) (fun _ => rfl) ?_
  refine mjGo.run 1 (pc' := (bif decide ((nI sz) ≤ 100) then 24 else 22)) (F' := ([some (.ref 0), some (.int (nI e)), some (.int (nI so)), some (.int (nI sz)), none], [], mjH I X)) (fun _ => rfl) ?_
  refine mjGo.brT (show (nI sz) ≤ 100 by rw [show (100 : Int32) = nI 100 from rfl, nI_leI (by omega) (by omega)]; omega) ?_
  show mjGo _ _ 24 _ _
  refine mjGo.run 1 (pc' := 25) (F' := ([some (.ref 0), some (.int (nI e)), some (.int (nI so)), some (.int (nI sz)), none], [.int (nI sz)], mjH I X)) (fun _ => rfl) ?_
  refine mjGo.run 1 (pc' := (bif decide (0 ≤ (nI sz)) then 31 else 28)) (F' := ([some (.ref 0), some (.int (nI e)), some (.int (nI so)), some (.int (nI sz)), none], [], mjH I X)) (fun _ => rfl) ?_
  refine mjGo.brT (show 0 ≤ (nI sz) by rw [show (0 : Int32) = nI 0 from rfl, nI_leI (by omega) (by omega)]; omega) ?_
  show mjGo _ _ 31 _ _
  refine mjGo.run 3 (pc' := 36) (F' := ([some (.ref 0), some (.int (nI e)), some (.int (nI so)), some (.int (nI sz)), none], [.int (nI e), .ref 26], mjH I X)) (fun _ => rfl) ?_
  refine mjGo.op (pc' := 37) (F' := ([some (.ref 0), some (.int (nI e)), some (.int (nI so)), some (.int (nI sz)), none], [.ref (27 + 2 * e)], mjH I X)) (o := mjaald 15 37) rfl (fun _ => row_aald he) ?_
  refine mjGo.run 6 (pc' := 50) (F' := ([some (.ref 0), some (.int (nI e)), some (.int (nI so)), some (.int (nI sz)), some (.ref (27 + 2 * e))], [.int (nI sz), .int (nI so), .ref (27 + 2 * e)], mjH I X)) (fun _ => rfl) ?_
  refine mjGo.callL (o := none) (h' := mjH (zf (mjU (mjU I (27 + 2 * e) 1 (nI so)) (27 + 2 * e) 2 (nI sz)) (28 + 2 * e) 0 100) X) (nx := 53) rfl rfl rfl ((row_N he).1) ⟨_, row_lk he, c_begin _ he⟩ ?_
  show mjGo _ _ 53 ([some (.ref 0), some (.int (nI e)), some (.int (nI so)), some (.int (nI sz)), some (.ref (27 + 2 * e))], [], mjH (zf (mjU (mjU I (27 + 2 * e) 1 (nI so)) (27 + 2 * e) 2 (nI sz)) (28 + 2 * e) 0 100) X) _
  refine mjGo.run 4 (pc' := 59) (F' := ([some (.ref 0), some (.int (nI e)), some (.int (nI so)), some (.int (nI sz)), some (.ref (27 + 2 * e))], [.int 2, .int (nI e), .ref 24], mjH (zf (mjU (mjU I (27 + 2 * e) 1 (nI so)) (27 + 2 * e) 2 (nI sz)) (28 + 2 * e) 0 100) X)) (fun _ => rfl) ?_
  refine mjGo.op (pc' := 60) (F' := ([some (.ref 0), some (.int (nI e)), some (.int (nI so)), some (.int (nI sz)), some (.ref (27 + 2 * e))], [], mjH (mjU (zf (mjU (mjU I (27 + 2 * e) 1 (nI so)) (27 + 2 * e) 2 (nI sz)) (28 + 2 * e) 0 100) 24 e 2) X)) (o := mjiast 60) rfl (fun _ => mjast_n (n := 8) (by omega) (by decide) (rfl) (rfl)) ?_
  exact mjGo.ret 2 (fun _ => rfl) rfl
theorem c_mRowA (d : Nat) {q s n : Int32} {I : Nat → Nat → Int32} {X : MX} (hs : mIn q 0 7 = 0) : mjEv (d + 2) nyX12_row [.ref 43, .int q, .int s, .int n] (mjH I X) (.inl (some (.int (-1)))) (mjH I X) := by
  refine mjEv.of ?_
  show mjGo (d + 2) nyX12_row 0 ([some (.ref 43), some (.int q), some (.int s), some (.int n), none], [], mjH I X) _
  refine mjGo.run 3 (pc' := 4) (F' := ([some (.ref 43), some (.int q), some (.int s), some (.int n), none], [.int 7, .int 0, .int q], mjH I X)) (fun _ => rfl) ?_
  refine mjGo.call (n := 3) (j := 132) (nx := 7) (o := some (.int 0)) (h' := mjH I X) (fun _ => rfl) ((by have q9 := c_mIn (d + 1) q 0 7 (mjH I X); rw [hs] at q9; exact q9)) ?_
  show mjGo _ _ 7 ([some (.ref 43), some (.int q), some (.int s), some (.int n), none], [.int 0], mjH I X) _
  exact mjGo.ret 3 (fun _ => rfl) rfl
theorem c_mRowB (d : Nat) {e : Nat} {s n : Int32} {I : Nat → Nat → Int32} {X : MX} (he : e < 8) (hq : mIn s 0 2 = 0) : mjEv (d + 2) nyX12_row [.ref 43, .int (nI e), .int s, .int n] (mjH I X) (.inl (some (.int (-1)))) (mjH I X) := by
  refine mjEv.of ?_
  show mjGo (d + 2) nyX12_row 0 ([some (.ref 43), some (.int (nI e)), some (.int s), some (.int n), none], [], mjH I X) _
  refine mjGo.run 3 (pc' := 4) (F' := ([some (.ref 43), some (.int (nI e)), some (.int s), some (.int n), none], [.int 7, .int 0, .int (nI e)], mjH I X)) (fun _ => rfl) ?_
  refine mjGo.call (n := 3) (j := 132) (nx := 7) (o := some (.int 1)) (h' := mjH I X) (fun _ => rfl) ((by have q9 := c_mIn (d + 1) (nI e) 0 7 (mjH I X); rw [mShelf_1 he] at q9; exact q9)) ?_
  show mjGo _ _ 7 ([some (.ref 43), some (.int (nI e)), some (.int s), some (.int n), none], [.int 1], mjH I X) _
  refine mjGo.run 4 (pc' := 13) (F' := ([some (.ref 43), some (.int (nI e)), some (.int s), some (.int n), none], [.int 2, .int 0, .int s], mjH I X)) (fun _ => rfl) ?_
  refine mjGo.call (n := 3) (j := 132) (nx := 16) (o := some (.int 0)) (h' := mjH I X) (fun _ => rfl) ((by have q9 := c_mIn (d + 1) s 0 2 (mjH I X); rw [hq] at q9; exact q9)) ?_
  show mjGo _ _ 16 ([some (.ref 43), some (.int (nI e)), some (.int s), some (.int n), none], [.int 0], mjH I X) _
  exact mjGo.ret 3 (fun _ => rfl) rfl
theorem c_mRowC (d : Nat) {e so : Nat} {n : Int32} {I : Nat → Nat → Int32} {X : MX} (he : e < 8) (hso : so < 3) (hn : ¬ n ≤ 100) : mjEv (d + 2) nyX12_row [.ref 43, .int (nI e), .int (nI so), .int n] (mjH I X) (.inl (some (.int (-1)))) (mjH I X) := by
  refine mjEv.of ?_
  show mjGo (d + 2) nyX12_row 0 ([some (.ref 43), some (.int (nI e)), some (.int (nI so)), some (.int n), none], [], mjH I X) _
  refine mjGo.run 3 (pc' := 4) (F' := ([some (.ref 43), some (.int (nI e)), some (.int (nI so)), some (.int n), none], [.int 7, .int 0, .int (nI e)], mjH I X)) (fun _ => rfl) ?_
  refine mjGo.call (n := 3) (j := 132) (nx := 7) (o := some (.int 1)) (h' := mjH I X) (fun _ => rfl) ((by have q9 := c_mIn (d + 1) (nI e) 0 7 (mjH I X); rw [mShelf_1 he] at q9; exact q9)) ?_
  show mjGo _ _ 7 ([some (.ref 43), some (.int (nI e)), some (.int (nI so)), some (.int n), none], [.int 1], mjH I X) _
  refine mjGo.run 4 (pc' := 13) (F' := ([some (.ref 43), some (.int (nI e)), some (.int (nI so)), some (.int n), none], [.int 2, .int 0, .int (nI so)], mjH I X)) (fun _ => rfl) ?_
  refine mjGo.call (n := 3) (j := 132) (nx := 16) (o := some (.int 1)) (h' := mjH I X) (fun _ => rfl) ((by have q9 := c_mIn (d + 1) (nI so) 0 2 (mjH I X); rw [show mIn (nI so) 0 2 = 1 from mIn_yes (n := 3) hso (by omega)] at q9; exact q9)) ?_
  show mjGo _ _ 16 ([some (.ref 43), some (.int (nI e)), some (.int (nI so)), some (.int n), none], [.int 1], mjH I X) _
  refine mjGo.run 4 (pc' := (bif decide (n ≤ 100) then 27 else 25)) (F' := ([some (.ref 43), some (.int (nI e)), some (.int (nI so)), some (.int n), none], [], mjH I X)) (fun _ => rfl) ?_
  refine mjGo.br (fun q1 => ?_) (fun q1 => ?_)
  · show mjGo _ _ 27 _ _
    first | exact absurd q1 hn | exact absurd hn q1 | (exfalso; simp_all; done)
  · show mjGo _ _ 25 _ _
    exact mjGo.ret 2 (fun _ => rfl) rfl
theorem c_mRowD (d : Nat) {e so : Nat} {n : Int32} {I : Nat → Nat → Int32} {X : MX} (he : e < 8) (hso : so < 3) (hn : n ≤ 100) (h0 : ¬ 0 ≤ n) : mjEv (d + 2) nyX12_row [.ref 43, .int (nI e), .int (nI so), .int n] (mjH I X) (.inl (some (.int (-14)))) (mjH I X) := by
  refine mjEv.of ?_
  show mjGo (d + 2) nyX12_row 0 ([some (.ref 43), some (.int (nI e)), some (.int (nI so)), some (.int n), none], [], mjH I X) _
  refine mjGo.run 3 (pc' := 4) (F' := ([some (.ref 43), some (.int (nI e)), some (.int (nI so)), some (.int n), none], [.int 7, .int 0, .int (nI e)], mjH I X)) (fun _ => rfl) ?_
  refine mjGo.call (n := 3) (j := 132) (nx := 7) (o := some (.int 1)) (h' := mjH I X) (fun _ => rfl) ((by have q9 := c_mIn (d + 1) (nI e) 0 7 (mjH I X); rw [mShelf_1 he] at q9; exact q9)) ?_
  show mjGo _ _ 7 ([some (.ref 43), some (.int (nI e)), some (.int (nI so)), some (.int n), none], [.int 1], mjH I X) _
  refine mjGo.run 4 (pc' := 13) (F' := ([some (.ref 43), some (.int (nI e)), some (.int (nI so)), some (.int n), none], [.int 2, .int 0, .int (nI so)], mjH I X)) (fun _ => rfl) ?_
  refine mjGo.call (n := 3) (j := 132) (nx := 16) (o := some (.int 1)) (h' := mjH I X) (fun _ => rfl) ((by have q9 := c_mIn (d + 1) (nI so) 0 2 (mjH I X); rw [show mIn (nI so) 0 2 = 1 from mIn_yes (n := 3) hso (by omega)] at q9; exact q9)) ?_
  show mjGo _ _ 16 ([some (.ref 43), some (.int (nI e)), some (.int (nI so)), some (.int n), none], [.int 1], mjH I X) _
  refine mjGo.run 4 (pc' := (bif decide (n ≤ 100) then 27 else 25)) (F' := ([some (.ref 43), some (.int (nI e)), some (.int (nI so)), some (.int n), none], [], mjH I X)) (fun _ => rfl) ?_
  refine mjGo.br (fun q1 => ?_) (fun q1 => ?_)
  · show mjGo _ _ 27 _ _
    refine mjGo.run 2 (pc' := (bif decide (0 ≤ n) then 34 else 31)) (F' := ([some (.ref 43), some (.int (nI e)), some (.int (nI so)), some (.int n), none], [], mjH I X)) (fun _ => rfl) ?_
    refine mjGo.br (fun q2 => ?_) (fun q2 => ?_)
    · show mjGo _ _ 34 _ _
      first | exact absurd q2 h0 | exact absurd h0 q2 | (exfalso; simp_all; done)
    · show mjGo _ _ 31 _ _
      exact mjGo.ret 2 (fun _ => rfl) rfl
  · show mjGo _ _ 25 _ _
    first | exact absurd q1 hn | exact absurd hn q1 | (exfalso; simp_all; done)
theorem mrow_loop {d e so sz : Nat} {I : Nat → Nat → Int32} {X : MX} (he : e < 8) : ∀ (k j : Nat), j + k = 100 → mjGo d nyX12_row 58 ([some (.ref 43), some (.int (nI e)), some (.int (nI so)), some (.int (nI sz)), some (.int (nI j))], [], mjH (zf I 69 (100 * e) j) X) (fun x => x = (.inl (some (.int 0)), mjH (zf I 69 (100 * e) 100) X)) := by
  intro k
  induction k with
  | zero =>
    intro j hj
    have e1 : j = 100 := by omega
    subst e1
    exact mjGo.ret 5 (fun _ => rfl) rfl
  | succ k ih =>
    intro j hj
    refine mjGo.run 2 (pc' := 62) (F' := ([some (.ref 43), some (.int (nI e)), some (.int (nI so)), some (.int (nI sz)), some (.int (nI j))], [.int 100, .int (nI j)], mjH (zf I 69 (100 * e) j) X)) (fun _ => rfl) ?_
    refine mjGo.run 1 (pc' := (bif decide (100 ≤ (nI j)) then 84 else 65)) (F' := ([some (.ref 43), some (.int (nI e)), some (.int (nI so)), some (.int (nI sz)), some (.int (nI j))], [], mjH (zf I 69 (100 * e) j) X)) (fun _ => rfl) ?_
    refine mjGo.brF (show ¬ 100 ≤ (nI j) by rw [show (100 : Int32) = nI 100 from rfl, nI_leI (by omega) (by omega)]; omega) ?_
    show mjGo _ _ 65 _ _
    refine mjGo.run 8 (pc' := 77) (F' := ([some (.ref 43), some (.int (nI e)), some (.int (nI so)), some (.int (nI sz)), some (.int (nI j))], [.int 0, .int ((100 * (nI e)) + (nI j)), .ref 69], mjH (zf I 69 (100 * e) j) X)) (fun _ => rfl) ?_
    refine mjGo.run 0 (pc' := 77) (F' := ([some (.ref 43), some (.int (nI e)), some (.int (nI so)), some (.int (nI sz)), some (.int (nI j))], [.int 0, .int ((100 * (nI e)) + (nI j)), .ref 69], mjH (zf I 69 (100 * e) j) X)) (fun _ => rfl) ?_
    rw [show ((100 * (nI e)) + (nI j)) = nI (100 * e + j) from idx_eq]
    refine mjGo.op (pc' := 78) (F' := ([some (.ref 43), some (.int (nI e)), some (.int (nI so)), some (.int (nI sz)), some (.int (nI j))], [], mjH (mjU (zf I 69 (100 * e) j) 69 (100 * e + j) 0) X)) (o := mjiast 78) rfl (fun _ => mjast_n (n := 800) (by omega) (by decide) (rfl) (rfl)) ?_
    refine mjGo.run 2 (pc' := 58) (F' := ([some (.ref 43), some (.int (nI e)), some (.int (nI so)), some (.int (nI sz)), some (.int ((nI j) + 1))], [], mjH (mjU (zf I 69 (100 * e) j) 69 (100 * e + j) 0) X)) (fun _ => rfl) ?_
    have k9 := ih (j + 1) (by omega)
    rw [← nI_1, ← zf_s] at k9
    exact k9
theorem c_mRowE (d : Nat) {e so sz : Nat} {I : Nat → Nat → Int32} {X : MX} (he : e < 8) (hso : so < 3) (hz : sz ≤ 100) : mjEv (d + 2) nyX12_row [.ref 43, .int (nI e), .int (nI so), .int (nI sz)] (mjH I X) (.inl (some (.int 0))) (mjH (zf (mjU (mjU (mjU I 66 e 2) 67 e (nI so)) 68 e (nI sz)) 69 (100 * e) 100) X) := by
  refine mjEv.of ?_
  show mjGo (d + 2) nyX12_row 0 ([some (.ref 43), some (.int (nI e)), some (.int (nI so)), some (.int (nI sz)), none], [], mjH I X) _
  refine mjGo.run 3 (pc' := 4) (F' := ([some (.ref 43), some (.int (nI e)), some (.int (nI so)), some (.int (nI sz)), none], [.int 7, .int 0, .int (nI e)], mjH I X)) (fun _ => rfl) ?_
  refine mjGo.call (n := 3) (j := 132) (nx := 7) (o := some (.int 1)) (h' := mjH I X) (fun _ => rfl) ((by have q9 := c_mIn (d + 1) (nI e) 0 7 (mjH I X); rw [mShelf_1 he] at q9; exact q9)) ?_
  show mjGo _ _ 7 ([some (.ref 43), some (.int (nI e)), some (.int (nI so)), some (.int (nI sz)), none], [.int 1], mjH I X) _
  refine mjGo.run 4 (pc' := 13) (F' := ([some (.ref 43), some (.int (nI e)), some (.int (nI so)), some (.int (nI sz)), none], [.int 2, .int 0, .int (nI so)], mjH I X)) (fun _ => rfl) ?_
  refine mjGo.call (n := 3) (j := 132) (nx := 16) (o := some (.int 1)) (h' := mjH I X) (fun _ => rfl) ((by have q9 := c_mIn (d + 1) (nI so) 0 2 (mjH I X); rw [show mIn (nI so) 0 2 = 1 from mIn_yes (n := 3) hso (by omega)] at q9; exact q9)) ?_
  show mjGo _ _ 16 ([some (.ref 43), some (.int (nI e)), some (.int (nI so)), some (.int (nI sz)), none], [.int 1], mjH I X) _
  refine mjGo.run 3 (pc' := 22) (F' := ([some (.ref 43), some (.int (nI e)), some (.int (nI so)), some (.int (nI sz)), none], [.int 100, .int (nI sz)], mjH I X)) (fun _ => rfl) ?_
  refine mjGo.run 1 (pc' := (bif decide ((nI sz) ≤ 100) then 27 else 25)) (F' := ([some (.ref 43), some (.int (nI e)), some (.int (nI so)), some (.int (nI sz)), none], [], mjH I X)) (fun _ => rfl) ?_
  refine mjGo.brT (show (nI sz) ≤ 100 by rw [show (100 : Int32) = nI 100 from rfl, nI_leI (by omega) (by omega)]; omega) ?_
  show mjGo _ _ 27 _ _
  refine mjGo.run 1 (pc' := 28) (F' := ([some (.ref 43), some (.int (nI e)), some (.int (nI so)), some (.int (nI sz)), none], [.int (nI sz)], mjH I X)) (fun _ => rfl) ?_
  refine mjGo.run 1 (pc' := (bif decide (0 ≤ (nI sz)) then 34 else 31)) (F' := ([some (.ref 43), some (.int (nI e)), some (.int (nI so)), some (.int (nI sz)), none], [], mjH I X)) (fun _ => rfl) ?_
  refine mjGo.brT (show 0 ≤ (nI sz) by rw [show (0 : Int32) = nI 0 from rfl, nI_leI (by omega) (by omega)]; omega) ?_
  show mjGo _ _ 34 _ _
  refine mjGo.run 4 (pc' := 40) (F' := ([some (.ref 43), some (.int (nI e)), some (.int (nI so)), some (.int (nI sz)), none], [.int 2, .int (nI e), .ref 66], mjH I X)) (fun _ => rfl) ?_
  refine mjGo.op (pc' := 41) (F' := ([some (.ref 43), some (.int (nI e)), some (.int (nI so)), some (.int (nI sz)), none], [], mjH (mjU I 66 e 2) X)) (o := mjiast 41) rfl (fun _ => mjast_n (n := 8) (by omega) (by decide) (rfl) (rfl)) ?_
  refine mjGo.run 4 (pc' := 47) (F' := ([some (.ref 43), some (.int (nI e)), some (.int (nI so)), some (.int (nI sz)), none], [.int (nI so), .int (nI e), .ref 67], mjH (mjU I 66 e 2) X)) (fun _ => rfl) ?_
  refine mjGo.op (pc' := 48) (F' := ([some (.ref 43), some (.int (nI e)), some (.int (nI so)), some (.int (nI sz)), none], [], mjH (mjU (mjU I 66 e 2) 67 e (nI so)) X)) (o := mjiast 48) rfl (fun _ => mjast_n (n := 8) (by omega) (by decide) (rfl) (rfl)) ?_
  refine mjGo.run 4 (pc' := 54) (F' := ([some (.ref 43), some (.int (nI e)), some (.int (nI so)), some (.int (nI sz)), none], [.int (nI sz), .int (nI e), .ref 68], mjH (mjU (mjU I 66 e 2) 67 e (nI so)) X)) (fun _ => rfl) ?_
  refine mjGo.op (pc' := 55) (F' := ([some (.ref 43), some (.int (nI e)), some (.int (nI so)), some (.int (nI sz)), none], [], mjH (mjU (mjU (mjU I 66 e 2) 67 e (nI so)) 68 e (nI sz)) X)) (o := mjiast 55) rfl (fun _ => mjast_n (n := 8) (by omega) (by decide) (rfl) (rfl)) ?_
  refine mjGo.run 2 (pc' := 58) (F' := ([some (.ref 43), some (.int (nI e)), some (.int (nI so)), some (.int (nI sz)), some (.int 0)], [], mjH (mjU (mjU (mjU I 66 e 2) 67 e (nI so)) 68 e (nI sz)) X)) (fun _ => rfl) ?_
  have q := mrow_loop (d := d + 2) (so := so) (sz := sz) (I := (mjU (mjU (mjU I 66 e 2) 67 e (nI so)) 68 e (nI sz))) (X := X) he 100 0 (by omega)
  rw [zf_0] at q
  exact q
