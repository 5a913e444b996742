/-! learn: the class -/
theorem c_xLnA (d : Nat) {p q : Int32} {I : Nat → Nat → Int32} {X : MX} (hq : mIn q 0 2 = 0) : mjEv (d + 4) nyX11_learn [.ref 0, .int p, .int q] (mjH I X) (.inl (some (.int (-1)))) (mjH I X) := by
  refine mjEv.of ?_
  show mjGo (d + 4) nyX11_learn 0 ([some (.ref 0), some (.int p), some (.int q), none, none, none, none, none, none], [], mjH I X) _
  refine mjGo.run 2 (pc' := (bif decide (q < 0) then 9 else 4)) (F' := ([some (.ref 0), some (.int p), some (.int q), none, none, none, none, none, none], [], mjH I X)) (fun _ => rfl) ?_
  refine mjGo.br (fun q1 => ?_) (fun q1 => ?_)
  · show mjGo _ _ 9 _ _
    exact mjGo.ret 2 (fun _ => rfl) rfl
  · show mjGo _ _ 4 _ _
    refine mjGo.run 3 (pc' := (bif decide (q ≤ 2) then 11 else 9)) (F' := ([some (.ref 0), some (.int p), some (.int q), none, none, none, none, none, none], [], mjH I X)) (fun _ => rfl) ?_
    refine mjGo.br (fun q2 => ?_) (fun q2 => ?_)
    · show mjGo _ _ 11 _ _
      exact absurd hq (by rw [mIn_ok q1 (Int32.not_lt.mpr q2)]; decide)
    · show mjGo _ _ 9 _ _
      exact mjGo.ret 2 (fun _ => rfl) rfl
theorem c_xLnB (d : Nat) {p q : Int32} {I : Nat → Nat → Int32} {X : MX}(h1 : ¬ q < 0) (h2 : q ≤ 2) (hs : xShelf p = 0) : mjEv (d + 4) nyX11_learn [.ref 0, .int p, .int q] (mjH I X) (.inl (some (.int (-1)))) (mjH I X) := by
  refine mjEv.of ?_
  show mjGo (d + 4) nyX11_learn 0 ([some (.ref 0), some (.int p), some (.int q), none, none, none, none, none, none], [], mjH I X) _
  refine mjGo.run 2 (pc' := (bif decide (q < 0) then 9 else 4)) (F' := ([some (.ref 0), some (.int p), some (.int q), none, none, none, none, none, none], [], mjH I X)) (fun _ => rfl) ?_
  refine mjGo.br (fun q1 => ?_) (fun q1 => ?_)
  · show mjGo _ _ 9 _ _
    first | exact absurd q1 h1 | exact absurd h1 q1 | (exfalso; simp_all; done)
  · show mjGo _ _ 4 _ _
    refine mjGo.run 3 (pc' := (bif decide (q ≤ 2) then 11 else 9)) (F' := ([some (.ref 0), some (.int p), some (.int q), none, none, none, none, none, none], [], mjH I X)) (fun _ => rfl) ?_
    refine mjGo.br (fun q2 => ?_) (fun q2 => ?_)
    · show mjGo _ _ 11 _ _
      refine mjGo.run 3 (pc' := 14) (F' := ([some (.ref 0), some (.int p), some (.int q), none, none, none, none, none, none], [.int 2, .int p, .ref 0], mjH I X)) (fun _ => rfl) ?_
      refine mjGo.call (n := 3) (j := 78) (nx := 17) (o := some (.int (-1))) (h' := mjH I X) (fun _ => rfl) (c_rrA _ hs) ?_
      show mjGo _ _ 17 ([some (.ref 0), some (.int p), some (.int q), none, none, none, none, none, none], [.int (-1)], mjH I X) _
      exact mjGo.ret 5 (fun _ => rfl) rfl
    · show mjGo _ _ 9 _ _
      first | exact absurd q2 h2 | exact absurd h2 q2 | (exfalso; simp_all; done)
theorem c_xLnC (d : Nat) {e : Nat} {q : Int32} {I : Nat → Nat → Int32} {X : MX}(h1 : ¬ q < 0) (h2 : q ≤ 2) (he : e < 8) (hh : I 24 e = 0) : mjEv (d + 4) nyX11_learn [.ref 0, .int (nI e), .int q] (mjH I X) (.inl (some (.int (-11)))) (mjH I X) := by
  refine mjEv.of ?_
  show mjGo (d + 4) nyX11_learn 0 ([some (.ref 0), some (.int (nI e)), some (.int q), none, none, none, none, none, none], [], mjH I X) _
  refine mjGo.run 2 (pc' := (bif decide (q < 0) then 9 else 4)) (F' := ([some (.ref 0), some (.int (nI e)), some (.int q), none, none, none, none, none, none], [], mjH I X)) (fun _ => rfl) ?_
  refine mjGo.br (fun q1 => ?_) (fun q1 => ?_)
  · show mjGo _ _ 9 _ _
    first | exact absurd q1 h1 | exact absurd h1 q1 | (exfalso; simp_all; done)
  · show mjGo _ _ 4 _ _
    refine mjGo.run 3 (pc' := (bif decide (q ≤ 2) then 11 else 9)) (F' := ([some (.ref 0), some (.int (nI e)), some (.int q), none, none, none, none, none, none], [], mjH I X)) (fun _ => rfl) ?_
    refine mjGo.br (fun q2 => ?_) (fun q2 => ?_)
    · show mjGo _ _ 11 _ _
      refine mjGo.run 3 (pc' := 14) (F' := ([some (.ref 0), some (.int (nI e)), some (.int q), none, none, none, none, none, none], [.int 2, .int (nI e), .ref 0], mjH I X)) (fun _ => rfl) ?_
      refine mjGo.call (n := 3) (j := 78) (nx := 17) (o := some (.int (-11))) (h' := mjH I X) (fun _ => rfl) (c_rrB _ he hh) ?_
      show mjGo _ _ 17 ([some (.ref 0), some (.int (nI e)), some (.int q), none, none, none, none, none, none], [.int (-11)], mjH I X) _
      exact mjGo.ret 5 (fun _ => rfl) rfl
    · show mjGo _ _ 9 _ _
      first | exact absurd q2 h2 | exact absurd h2 q2 | (exfalso; simp_all; done)
theorem c_xLnD (d : Nat) {e : Nat} {q : Int32} {I : Nat → Nat → Int32} {X : MX}(h1 : ¬ q < 0) (h2 : q ≤ 2) (he : e < 8) (hh : I 24 e = 1) : mjEv (d + 4) nyX11_learn [.ref 0, .int (nI e), .int q] (mjH I X) (.inl (some (.int (-12)))) (mjH I X) := by
  refine mjEv.of ?_
  show mjGo (d + 4) nyX11_learn 0 ([some (.ref 0), some (.int (nI e)), some (.int q), none, none, none, none, none, none], [], mjH I X) _
  refine mjGo.run 2 (pc' := (bif decide (q < 0) then 9 else 4)) (F' := ([some (.ref 0), some (.int (nI e)), some (.int q), none, none, none, none, none, none], [], mjH I X)) (fun _ => rfl) ?_
  refine mjGo.br (fun q1 => ?_) (fun q1 => ?_)
  · show mjGo _ _ 9 _ _
    first | exact absurd q1 h1 | exact absurd h1 q1 | (exfalso; simp_all; done)
  · show mjGo _ _ 4 _ _
    refine mjGo.run 3 (pc' := (bif decide (q ≤ 2) then 11 else 9)) (F' := ([some (.ref 0), some (.int (nI e)), some (.int q), none, none, none, none, none, none], [], mjH I X)) (fun _ => rfl) ?_
    refine mjGo.br (fun q2 => ?_) (fun q2 => ?_)
    · show mjGo _ _ 11 _ _
      refine mjGo.run 3 (pc' := 14) (F' := ([some (.ref 0), some (.int (nI e)), some (.int q), none, none, none, none, none, none], [.int 2, .int (nI e), .ref 0], mjH I X)) (fun _ => rfl) ?_
      refine mjGo.call (n := 3) (j := 78) (nx := 17) (o := some (.int (-12))) (h' := mjH I X) (fun _ => rfl) (c_rrC _ he hh) ?_
      show mjGo _ _ 17 ([some (.ref 0), some (.int (nI e)), some (.int q), none, none, none, none, none, none], [.int (-12)], mjH I X) _
      exact mjGo.ret 5 (fun _ => rfl) rfl
    · show mjGo _ _ 9 _ _
      first | exact absurd q2 h2 | exact absurd h2 q2 | (exfalso; simp_all; done)
theorem c_xLnE (d : Nat) {e : Nat} {q : Int32} {I : Nat → Nat → Int32} {X : MX}(h1 : ¬ q < 0) (h2 : q ≤ 2) (he : e < 8) (hh : I 24 e = 2) (hq : ¬ I (27 + 2 * e) 1 = 2) : mjEv (d + 4) nyX11_learn [.ref 0, .int (nI e), .int q] (mjH I X) (.inl (some (.int (-12)))) (mjH I X) := by
  refine mjEv.of ?_
  show mjGo (d + 4) nyX11_learn 0 ([some (.ref 0), some (.int (nI e)), some (.int q), none, none, none, none, none, none], [], mjH I X) _
  refine mjGo.run 2 (pc' := (bif decide (q < 0) then 9 else 4)) (F' := ([some (.ref 0), some (.int (nI e)), some (.int q), none, none, none, none, none, none], [], mjH I X)) (fun _ => rfl) ?_
  refine mjGo.br (fun q1 => ?_) (fun q1 => ?_)
  · show mjGo _ _ 9 _ _
    first | exact absurd q1 h1 | exact absurd h1 q1 | (exfalso; simp_all; done)
  · show mjGo _ _ 4 _ _
    refine mjGo.run 3 (pc' := (bif decide (q ≤ 2) then 11 else 9)) (F' := ([some (.ref 0), some (.int (nI e)), some (.int q), none, none, none, none, none, none], [], mjH I X)) (fun _ => rfl) ?_
    refine mjGo.br (fun q2 => ?_) (fun q2 => ?_)
    · show mjGo _ _ 11 _ _
      refine mjGo.run 3 (pc' := 14) (F' := ([some (.ref 0), some (.int (nI e)), some (.int q), none, none, none, none, none, none], [.int 2, .int (nI e), .ref 0], mjH I X)) (fun _ => rfl) ?_
      refine mjGo.call (n := 3) (j := 78) (nx := 17) (o := some (.int (-12))) (h' := mjH I X) (fun _ => rfl) (c_rrF _ he hh (by decide) hq) ?_
      show mjGo _ _ 17 ([some (.ref 0), some (.int (nI e)), some (.int q), none, none, none, none, none, none], [.int (-12)], mjH I X) _
      exact mjGo.ret 5 (fun _ => rfl) rfl
    · show mjGo _ _ 9 _ _
      first | exact absurd q2 h2 | exact absurd h2 q2 | (exfalso; simp_all; done)
theorem c_xLnF (d : Nat) {e sz : Nat} {q : Int32} {I : Nat → Nat → Int32} {X : MX}(h1 : ¬ q < 0) (h2 : q ≤ 2) (he : e < 8) (hh : I 24 e = 2) (hq : I (27 + 2 * e) 1 = 2) (hz : I (27 + 2 * e) 2 = nI sz) (hs : sz ≤ 100) (hm : ¬ sz % 3 = 0) : mjEv (d + 4) nyX11_learn [.ref 0, .int (nI e), .int q] (mjH I X) (.inl (some (.int (-13)))) (mjH I X) := by
  refine mjEv.of ?_
  show mjGo (d + 4) nyX11_learn 0 ([some (.ref 0), some (.int (nI e)), some (.int q), none, none, none, none, none, none], [], mjH I X) _
  refine mjGo.run 2 (pc' := (bif decide (q < 0) then 9 else 4)) (F' := ([some (.ref 0), some (.int (nI e)), some (.int q), none, none, none, none, none, none], [], mjH I X)) (fun _ => rfl) ?_
  refine mjGo.br (fun q1 => ?_) (fun q1 => ?_)
  · show mjGo _ _ 9 _ _
    first | exact absurd q1 h1 | exact absurd h1 q1 | (exfalso; simp_all; done)
  · show mjGo _ _ 4 _ _
    refine mjGo.run 3 (pc' := (bif decide (q ≤ 2) then 11 else 9)) (F' := ([some (.ref 0), some (.int (nI e)), some (.int q), none, none, none, none, none, none], [], mjH I X)) (fun _ => rfl) ?_
    refine mjGo.br (fun q2 => ?_) (fun q2 => ?_)
    · show mjGo _ _ 11 _ _
      refine mjGo.run 3 (pc' := 14) (F' := ([some (.ref 0), some (.int (nI e)), some (.int q), none, none, none, none, none, none], [.int 2, .int (nI e), .ref 0], mjH I X)) (fun _ => rfl) ?_
      refine mjGo.call (n := 3) (j := 78) (nx := 17) (o := some (.int 0)) (h' := mjH I X) (fun _ => rfl) (c_rrE _ he hh (by decide) hq) ?_
      show mjGo _ _ 17 ([some (.ref 0), some (.int (nI e)), some (.int q), none, none, none, none, none, none], [.int 0], mjH I X) _
      refine mjGo.run 6 (pc' := 29) (F' := ([some (.ref 0), some (.int (nI e)), some (.int q), some (.int 0), none, none, none, none, none], [.int (nI e), .ref 26], mjH I X)) (fun _ => rfl) ?_
      refine mjGo.op (pc' := 30) (F' := ([some (.ref 0), some (.int (nI e)), some (.int q), some (.int 0), none, none, none, none, none], [.ref (27 + 2 * e)], mjH I X)) (o := mjaald 15 30) rfl (fun _ => row_aald he) ?_
      refine mjGo.run 2 (pc' := 34) (F' := ([some (.ref 0), some (.int (nI e)), some (.int q), some (.int 0), some (.ref (27 + 2 * e)), none, none, none, none], [.ref (27 + 2 * e)], mjH I X)) (fun _ => rfl) ?_
      refine mjGo.call (n := 1) (j := 104) (nx := 37) (o := some (.int 0)) (h' := mjH I X) (fun _ => rfl) (c_xArN _ he hz hs hm) ?_
      show mjGo _ _ 37 ([some (.ref 0), some (.int (nI e)), some (.int q), some (.int 0), some (.ref (27 + 2 * e)), none, none, none, none], [.int 0], mjH I X) _
      exact mjGo.ret 3 (fun _ => rfl) rfl
    · show mjGo _ _ 9 _ _
      first | exact absurd q2 h2 | exact absurd h2 q2 | (exfalso; simp_all; done)
theorem c_xLnG (d : Nat) {e sz m : Nat} {q : Int32} {I : Nat → Nat → Int32} {X : MX}(h1 : ¬ q < 0) (h2 : q ≤ 2) (he : e < 8) (hh : I 24 e = 2) (hq : I (27 + 2 * e) 1 = 2) (hz : I (27 + 2 * e) 2 = nI sz) (hs : sz ≤ 100) {f : Nat → Int32} (hm : sz = 3 * m) (hf : ∀ j, j < sz → I (28 + 2 * e) j = f j) (ha : alB (thB f) m 0 = false) : mjEv (d + 4) nyX11_learn [.ref 0, .int (nI e), .int q] (mjH I X) (.inl (some (.int (-13)))) (mjH I X) := by
  refine mjEv.of ?_
  show mjGo (d + 4) nyX11_learn 0 ([some (.ref 0), some (.int (nI e)), some (.int q), none, none, none, none, none, none], [], mjH I X) _
  refine mjGo.run 2 (pc' := (bif decide (q < 0) then 9 else 4)) (F' := ([some (.ref 0), some (.int (nI e)), some (.int q), none, none, none, none, none, none], [], mjH I X)) (fun _ => rfl) ?_
  refine mjGo.br (fun q1 => ?_) (fun q1 => ?_)
  · show mjGo _ _ 9 _ _
    first | exact absurd q1 h1 | exact absurd h1 q1 | (exfalso; simp_all; done)
  · show mjGo _ _ 4 _ _
    refine mjGo.run 3 (pc' := (bif decide (q ≤ 2) then 11 else 9)) (F' := ([some (.ref 0), some (.int (nI e)), some (.int q), none, none, none, none, none, none], [], mjH I X)) (fun _ => rfl) ?_
    refine mjGo.br (fun q2 => ?_) (fun q2 => ?_)
    · show mjGo _ _ 11 _ _
      refine mjGo.run 3 (pc' := 14) (F' := ([some (.ref 0), some (.int (nI e)), some (.int q), none, none, none, none, none, none], [.int 2, .int (nI e), .ref 0], mjH I X)) (fun _ => rfl) ?_
      refine mjGo.call (n := 3) (j := 78) (nx := 17) (o := some (.int 0)) (h' := mjH I X) (fun _ => rfl) (c_rrE _ he hh (by decide) hq) ?_
      show mjGo _ _ 17 ([some (.ref 0), some (.int (nI e)), some (.int q), none, none, none, none, none, none], [.int 0], mjH I X) _
      refine mjGo.run 6 (pc' := 29) (F' := ([some (.ref 0), some (.int (nI e)), some (.int q), some (.int 0), none, none, none, none, none], [.int (nI e), .ref 26], mjH I X)) (fun _ => rfl) ?_
      refine mjGo.op (pc' := 30) (F' := ([some (.ref 0), some (.int (nI e)), some (.int q), some (.int 0), none, none, none, none, none], [.ref (27 + 2 * e)], mjH I X)) (o := mjaald 15 30) rfl (fun _ => row_aald he) ?_
      refine mjGo.run 2 (pc' := 34) (F' := ([some (.ref 0), some (.int (nI e)), some (.int q), some (.int 0), some (.ref (27 + 2 * e)), none, none, none, none], [.ref (27 + 2 * e)], mjH I X)) (fun _ => rfl) ?_
      refine mjGo.call (n := 1) (j := 104) (nx := 37) (o := some (.int 0)) (h' := mjH I X) (fun _ => rfl) ((by have q9 := c_xArY (d + 1) (X := X) he hz hs hm hf; rw [ha] at q9; exact q9)) ?_
      show mjGo _ _ 37 ([some (.ref 0), some (.int (nI e)), some (.int q), some (.int 0), some (.ref (27 + 2 * e)), none, none, none, none], [.int 0], mjH I X) _
      exact mjGo.ret 3 (fun _ => rfl) rfl
    · show mjGo _ _ 9 _ _
      first | exact absurd q2 h2 | exact absurd h2 q2 | (exfalso; simp_all; done)
theorem c_xLnH (d : Nat) {e sz m : Nat} {q : Int32} {I : Nat → Nat → Int32} {X : MX}(h1 : ¬ q < 0) (h2 : q ≤ 2) (he : e < 8) (hh : I 24 e = 2) (hq : I (27 + 2 * e) 1 = 2) (hz : I (27 + 2 * e) 2 = nI sz) (hs : sz ≤ 100) {f : Nat → Int32} (hm : sz = 3 * m) (hf : ∀ j, j < sz → I (28 + 2 * e) j = f j) (ha : alB (thB f) m 0 = true) : mjEv (d + 4) nyX11_learn [.ref 0, .int (nI e), .int q] (mjH I X) (.inl (some (.int (lrV (fun j => alB (cbB f (vI j)) m 0) q 41 0 0 0 0)))) (mjH I X) := by
  refine mjEv.of ?_
  show mjGo (d + 4) nyX11_learn 0 ([some (.ref 0), some (.int (nI e)), some (.int q), none, none, none, none, none, none], [], mjH I X) _
  refine mjGo.run 2 (pc' := (bif decide (q < 0) then 9 else 4)) (F' := ([some (.ref 0), some (.int (nI e)), some (.int q), none, none, none, none, none, none], [], mjH I X)) (fun _ => rfl) ?_
  refine mjGo.br (fun q1 => ?_) (fun q1 => ?_)
  · show mjGo _ _ 9 _ _
    first | exact absurd q1 h1 | exact absurd h1 q1 | (exfalso; simp_all; done)
  · show mjGo _ _ 4 _ _
    refine mjGo.run 3 (pc' := (bif decide (q ≤ 2) then 11 else 9)) (F' := ([some (.ref 0), some (.int (nI e)), some (.int q), none, none, none, none, none, none], [], mjH I X)) (fun _ => rfl) ?_
    refine mjGo.br (fun q2 => ?_) (fun q2 => ?_)
    · show mjGo _ _ 11 _ _
      refine mjGo.run 3 (pc' := 14) (F' := ([some (.ref 0), some (.int (nI e)), some (.int q), none, none, none, none, none, none], [.int 2, .int (nI e), .ref 0], mjH I X)) (fun _ => rfl) ?_
      refine mjGo.call (n := 3) (j := 78) (nx := 17) (o := some (.int 0)) (h' := mjH I X) (fun _ => rfl) (c_rrE _ he hh (by decide) hq) ?_
      show mjGo _ _ 17 ([some (.ref 0), some (.int (nI e)), some (.int q), none, none, none, none, none, none], [.int 0], mjH I X) _
      refine mjGo.run 6 (pc' := 29) (F' := ([some (.ref 0), some (.int (nI e)), some (.int q), some (.int 0), none, none, none, none, none], [.int (nI e), .ref 26], mjH I X)) (fun _ => rfl) ?_
      refine mjGo.op (pc' := 30) (F' := ([some (.ref 0), some (.int (nI e)), some (.int q), some (.int 0), none, none, none, none, none], [.ref (27 + 2 * e)], mjH I X)) (o := mjaald 15 30) rfl (fun _ => row_aald he) ?_
      refine mjGo.run 2 (pc' := 34) (F' := ([some (.ref 0), some (.int (nI e)), some (.int q), some (.int 0), some (.ref (27 + 2 * e)), none, none, none, none], [.ref (27 + 2 * e)], mjH I X)) (fun _ => rfl) ?_
      refine mjGo.call (n := 1) (j := 104) (nx := 37) (o := some (.int 1)) (h' := mjH I X) (fun _ => rfl) ((by have q9 := c_xArY (d + 1) (X := X) he hz hs hm hf; rw [ha] at q9; exact q9)) ?_
      show mjGo _ _ 37 ([some (.ref 0), some (.int (nI e)), some (.int q), some (.int 0), some (.ref (27 + 2 * e)), none, none, none, none], [.int 1], mjH I X) _
      refine mjGo.run 9 (pc' := 58) (F' := ([some (.ref 0), some (.int (nI e)), some (.int q), some (.int 0), some (.ref (27 + 2 * e)), some (.int 0), some (.int (-4)), some (.int (-4)), some (.int (-20))], [], mjH I X)) (fun _ => rfl) ?_
      have k9 := x_lr_loop (d := d + 1) (q := q) (X := X) he hz hs hm hf 41 0 0 0 0 (-4) (-4) (by omega) (by omega) (fun _ => ⟨rfl, rfl⟩) (fun w => absurd rfl w)
      exact k9
    · show mjGo _ _ 9 _ _
      first | exact absurd q2 h2 | exact absurd h2 q2 | (exfalso; simp_all; done)
