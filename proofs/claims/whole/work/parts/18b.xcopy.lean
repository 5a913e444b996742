/-! copy: the class -/
theorem c_xCpA (d : Nat) {p i q j n : Int32} {I : Nat → Nat → Int32} {X : MX} (hp : xShelf p = 0) : mjEv (d + 4) nyX11_copy [.ref 0, .int p, .int i, .int q, .int j, .int n] (mjH I X) (.inl (some (.int (-1)))) (mjH I X) := by
  refine mjEv.of ?_
  show mjGo (d + 4) nyX11_copy 0 ([some (.ref 0), some (.int p), some (.int i), some (.int q), some (.int j), some (.int n), none, none], [], mjH I X) _
  refine mjGo.run 1 (pc' := 1) (F' := ([some (.ref 0), some (.int p), some (.int i), some (.int q), some (.int j), some (.int n), none, none], [.int p], mjH I X)) (fun _ => rfl) ?_
  refine mjGo.call (n := 1) (j := 77) (nx := 4) (o := some (.int 0)) (h' := mjH I X) (fun _ => rfl) ((by have q9 := c_xShelf (d + 3) p (mjH I X); rw [hp] at q9; exact q9)) ?_
  show mjGo _ _ 4 ([some (.ref 0), some (.int p), some (.int i), some (.int q), some (.int j), some (.int n), none, none], [.int 0], mjH I X) _
  exact mjGo.ret 3 (fun _ => rfl) rfl
theorem c_xCpB (d : Nat) {e1 : Nat} {i p j n : Int32} {I : Nat → Nat → Int32} {X : MX} (he1 : e1 < 8) (hp : xShelf p = 0) : mjEv (d + 4) nyX11_copy [.ref 0, .int (nI e1), .int i, .int p, .int j, .int n] (mjH I X) (.inl (some (.int (-1)))) (mjH I X) := by
  refine mjEv.of ?_
  show mjGo (d + 4) nyX11_copy 0 ([some (.ref 0), some (.int (nI e1)), some (.int i), some (.int p), some (.int j), some (.int n), none, none], [], mjH I X) _
  refine mjGo.run 1 (pc' := 1) (F' := ([some (.ref 0), some (.int (nI e1)), some (.int i), some (.int p), some (.int j), some (.int n), none, none], [.int (nI e1)], mjH I X)) (fun _ => rfl) ?_
  refine mjGo.call (n := 1) (j := 77) (nx := 4) (o := some (.int 1)) (h' := mjH I X) (fun _ => rfl) ((by have q9 := c_xShelf (d + 3) (nI e1) (mjH I X); rw [xShelf_1 he1] at q9; exact q9)) ?_
  show mjGo _ _ 4 ([some (.ref 0), some (.int (nI e1)), some (.int i), some (.int p), some (.int j), some (.int n), none, none], [.int 1], mjH I X) _
  refine mjGo.run 2 (pc' := 8) (F' := ([some (.ref 0), some (.int (nI e1)), some (.int i), some (.int p), some (.int j), some (.int n), none, none], [.int p], mjH I X)) (fun _ => rfl) ?_
  refine mjGo.call (n := 1) (j := 77) (nx := 11) (o := some (.int 0)) (h' := mjH I X) (fun _ => rfl) ((by have q9 := c_xShelf (d + 3) p (mjH I X); rw [hp] at q9; exact q9)) ?_
  show mjGo _ _ 11 ([some (.ref 0), some (.int (nI e1)), some (.int i), some (.int p), some (.int j), some (.int n), none, none], [.int 0], mjH I X) _
  exact mjGo.ret 3 (fun _ => rfl) rfl
theorem c_xCp00 (d : Nat) {e1 e2 : Nat} {i j n : Int32} {I : Nat → Nat → Int32} {X : MX}(he1 : e1 < 8) (he2 : e2 < 8) (hh1 : I 24 e1 = 0) (hh2 : I 24 e2 = 0) : mjEv (d + 4) nyX11_copy [.ref 0, .int (nI e1), .int i, .int (nI e2), .int j, .int n] (mjH I X) (.inl (some (.int (-11)))) (mjH I X) := by
  refine mjEv.of ?_
  show mjGo (d + 4) nyX11_copy 0 ([some (.ref 0), some (.int (nI e1)), some (.int i), some (.int (nI e2)), some (.int j), some (.int n), none, none], [], mjH I X) _
  refine mjGo.run 1 (pc' := 1) (F' := ([some (.ref 0), some (.int (nI e1)), some (.int i), some (.int (nI e2)), some (.int j), some (.int n), none, none], [.int (nI e1)], mjH I X)) (fun _ => rfl) ?_
  refine mjGo.call (n := 1) (j := 77) (nx := 4) (o := some (.int 1)) (h' := mjH I X) (fun _ => rfl) ((by have q9 := c_xShelf (d + 3) (nI e1) (mjH I X); rw [xShelf_1 he1] at q9; exact q9)) ?_
  show mjGo _ _ 4 ([some (.ref 0), some (.int (nI e1)), some (.int i), some (.int (nI e2)), some (.int j), some (.int n), none, none], [.int 1], mjH I X) _
  refine mjGo.run 2 (pc' := 8) (F' := ([some (.ref 0), some (.int (nI e1)), some (.int i), some (.int (nI e2)), some (.int j), some (.int n), none, none], [.int (nI e2)], mjH I X)) (fun _ => rfl) ?_
  refine mjGo.call (n := 1) (j := 77) (nx := 11) (o := some (.int 1)) (h' := mjH I X) (fun _ => rfl) ((by have q9 := c_xShelf (d + 3) (nI e2) (mjH I X); rw [xShelf_1 he2] at q9; exact q9)) ?_
  show mjGo _ _ 11 ([some (.ref 0), some (.int (nI e1)), some (.int i), some (.int (nI e2)), some (.int j), some (.int n), none, none], [.int 1], mjH I X) _
  refine mjGo.run 4 (pc' := 21) (F' := ([some (.ref 0), some (.int (nI e1)), some (.int i), some (.int (nI e2)), some (.int j), some (.int n), none, none], [.int (nI e1), .ref 24], mjH I X)) (fun _ => rfl) ?_
  refine mjGo.op (pc' := 22) (F' := ([some (.ref 0), some (.int (nI e1)), some (.int i), some (.int (nI e2)), some (.int j), some (.int n), none, none], [.int (I 24 e1)], mjH I X)) (o := mjiald 22) rfl (fun _ => mjald_n (n := 8) (by omega) (by decide) (rfl) (rfl)) ?_
  refine mjGo.run 0 (pc' := 22) (F' := ([some (.ref 0), some (.int (nI e1)), some (.int i), some (.int (nI e2)), some (.int j), some (.int n), none, none], [.int (I 24 e1)], mjH I X)) (fun _ => rfl) ?_
  rw [show (I 24 e1) = 0 from hh1]
  exact mjGo.ret 3 (fun _ => rfl) rfl
theorem c_xCp01 (d : Nat) {e1 e2 : Nat} {i j n : Int32} {I : Nat → Nat → Int32} {X : MX}(he1 : e1 < 8) (he2 : e2 < 8) (hh1 : I 24 e1 = 0) (hh2 : I 24 e2 = 1) : mjEv (d + 4) nyX11_copy [.ref 0, .int (nI e1), .int i, .int (nI e2), .int j, .int n] (mjH I X) (.inl (some (.int (-11)))) (mjH I X) := by
  refine mjEv.of ?_
  show mjGo (d + 4) nyX11_copy 0 ([some (.ref 0), some (.int (nI e1)), some (.int i), some (.int (nI e2)), some (.int j), some (.int n), none, none], [], mjH I X) _
  refine mjGo.run 1 (pc' := 1) (F' := ([some (.ref 0), some (.int (nI e1)), some (.int i), some (.int (nI e2)), some (.int j), some (.int n), none, none], [.int (nI e1)], mjH I X)) (fun _ => rfl) ?_
  refine mjGo.call (n := 1) (j := 77) (nx := 4) (o := some (.int 1)) (h' := mjH I X) (fun _ => rfl) ((by have q9 := c_xShelf (d + 3) (nI e1) (mjH I X); rw [xShelf_1 he1] at q9; exact q9)) ?_
  show mjGo _ _ 4 ([some (.ref 0), some (.int (nI e1)), some (.int i), some (.int (nI e2)), some (.int j), some (.int n), none, none], [.int 1], mjH I X) _
  refine mjGo.run 2 (pc' := 8) (F' := ([some (.ref 0), some (.int (nI e1)), some (.int i), some (.int (nI e2)), some (.int j), some (.int n), none, none], [.int (nI e2)], mjH I X)) (fun _ => rfl) ?_
  refine mjGo.call (n := 1) (j := 77) (nx := 11) (o := some (.int 1)) (h' := mjH I X) (fun _ => rfl) ((by have q9 := c_xShelf (d + 3) (nI e2) (mjH I X); rw [xShelf_1 he2] at q9; exact q9)) ?_
  show mjGo _ _ 11 ([some (.ref 0), some (.int (nI e1)), some (.int i), some (.int (nI e2)), some (.int j), some (.int n), none, none], [.int 1], mjH I X) _
  refine mjGo.run 4 (pc' := 21) (F' := ([some (.ref 0), some (.int (nI e1)), some (.int i), some (.int (nI e2)), some (.int j), some (.int n), none, none], [.int (nI e1), .ref 24], mjH I X)) (fun _ => rfl) ?_
  refine mjGo.op (pc' := 22) (F' := ([some (.ref 0), some (.int (nI e1)), some (.int i), some (.int (nI e2)), some (.int j), some (.int n), none, none], [.int (I 24 e1)], mjH I X)) (o := mjiald 22) rfl (fun _ => mjald_n (n := 8) (by omega) (by decide) (rfl) (rfl)) ?_
  refine mjGo.run 0 (pc' := 22) (F' := ([some (.ref 0), some (.int (nI e1)), some (.int i), some (.int (nI e2)), some (.int j), some (.int n), none, none], [.int (I 24 e1)], mjH I X)) (fun _ => rfl) ?_
  rw [show (I 24 e1) = 0 from hh1]
  exact mjGo.ret 3 (fun _ => rfl) rfl
theorem c_xCp02 (d : Nat) {e1 e2 : Nat} {i j n : Int32} {I : Nat → Nat → Int32} {X : MX}(he1 : e1 < 8) (he2 : e2 < 8) (hh1 : I 24 e1 = 0) (hh2 : I 24 e2 = 2) : mjEv (d + 4) nyX11_copy [.ref 0, .int (nI e1), .int i, .int (nI e2), .int j, .int n] (mjH I X) (.inl (some (.int (-11)))) (mjH I X) := by
  refine mjEv.of ?_
  show mjGo (d + 4) nyX11_copy 0 ([some (.ref 0), some (.int (nI e1)), some (.int i), some (.int (nI e2)), some (.int j), some (.int n), none, none], [], mjH I X) _
  refine mjGo.run 1 (pc' := 1) (F' := ([some (.ref 0), some (.int (nI e1)), some (.int i), some (.int (nI e2)), some (.int j), some (.int n), none, none], [.int (nI e1)], mjH I X)) (fun _ => rfl) ?_
  refine mjGo.call (n := 1) (j := 77) (nx := 4) (o := some (.int 1)) (h' := mjH I X) (fun _ => rfl) ((by have q9 := c_xShelf (d + 3) (nI e1) (mjH I X); rw [xShelf_1 he1] at q9; exact q9)) ?_
  show mjGo _ _ 4 ([some (.ref 0), some (.int (nI e1)), some (.int i), some (.int (nI e2)), some (.int j), some (.int n), none, none], [.int 1], mjH I X) _
  refine mjGo.run 2 (pc' := 8) (F' := ([some (.ref 0), some (.int (nI e1)), some (.int i), some (.int (nI e2)), some (.int j), some (.int n), none, none], [.int (nI e2)], mjH I X)) (fun _ => rfl) ?_
  refine mjGo.call (n := 1) (j := 77) (nx := 11) (o := some (.int 1)) (h' := mjH I X) (fun _ => rfl) ((by have q9 := c_xShelf (d + 3) (nI e2) (mjH I X); rw [xShelf_1 he2] at q9; exact q9)) ?_
  show mjGo _ _ 11 ([some (.ref 0), some (.int (nI e1)), some (.int i), some (.int (nI e2)), some (.int j), some (.int n), none, none], [.int 1], mjH I X) _
  refine mjGo.run 4 (pc' := 21) (F' := ([some (.ref 0), some (.int (nI e1)), some (.int i), some (.int (nI e2)), some (.int j), some (.int n), none, none], [.int (nI e1), .ref 24], mjH I X)) (fun _ => rfl) ?_
  refine mjGo.op (pc' := 22) (F' := ([some (.ref 0), some (.int (nI e1)), some (.int i), some (.int (nI e2)), some (.int j), some (.int n), none, none], [.int (I 24 e1)], mjH I X)) (o := mjiald 22) rfl (fun _ => mjald_n (n := 8) (by omega) (by decide) (rfl) (rfl)) ?_
  refine mjGo.run 0 (pc' := 22) (F' := ([some (.ref 0), some (.int (nI e1)), some (.int i), some (.int (nI e2)), some (.int j), some (.int n), none, none], [.int (I 24 e1)], mjH I X)) (fun _ => rfl) ?_
  rw [show (I 24 e1) = 0 from hh1]
  exact mjGo.ret 3 (fun _ => rfl) rfl
theorem c_xCp10 (d : Nat) {e1 e2 : Nat} {i j n : Int32} {I : Nat → Nat → Int32} {X : MX}(he1 : e1 < 8) (he2 : e2 < 8) (hh1 : I 24 e1 = 1) (hh2 : I 24 e2 = 0) : mjEv (d + 4) nyX11_copy [.ref 0, .int (nI e1), .int i, .int (nI e2), .int j, .int n] (mjH I X) (.inl (some (.int (-11)))) (mjH I X) := by
  refine mjEv.of ?_
  show mjGo (d + 4) nyX11_copy 0 ([some (.ref 0), some (.int (nI e1)), some (.int i), some (.int (nI e2)), some (.int j), some (.int n), none, none], [], mjH I X) _
  refine mjGo.run 1 (pc' := 1) (F' := ([some (.ref 0), some (.int (nI e1)), some (.int i), some (.int (nI e2)), some (.int j), some (.int n), none, none], [.int (nI e1)], mjH I X)) (fun _ => rfl) ?_
  refine mjGo.call (n := 1) (j := 77) (nx := 4) (o := some (.int 1)) (h' := mjH I X) (fun _ => rfl) ((by have q9 := c_xShelf (d + 3) (nI e1) (mjH I X); rw [xShelf_1 he1] at q9; exact q9)) ?_
  show mjGo _ _ 4 ([some (.ref 0), some (.int (nI e1)), some (.int i), some (.int (nI e2)), some (.int j), some (.int n), none, none], [.int 1], mjH I X) _
  refine mjGo.run 2 (pc' := 8) (F' := ([some (.ref 0), some (.int (nI e1)), some (.int i), some (.int (nI e2)), some (.int j), some (.int n), none, none], [.int (nI e2)], mjH I X)) (fun _ => rfl) ?_
  refine mjGo.call (n := 1) (j := 77) (nx := 11) (o := some (.int 1)) (h' := mjH I X) (fun _ => rfl) ((by have q9 := c_xShelf (d + 3) (nI e2) (mjH I X); rw [xShelf_1 he2] at q9; exact q9)) ?_
  show mjGo _ _ 11 ([some (.ref 0), some (.int (nI e1)), some (.int i), some (.int (nI e2)), some (.int j), some (.int n), none, none], [.int 1], mjH I X) _
  refine mjGo.run 4 (pc' := 21) (F' := ([some (.ref 0), some (.int (nI e1)), some (.int i), some (.int (nI e2)), some (.int j), some (.int n), none, none], [.int (nI e1), .ref 24], mjH I X)) (fun _ => rfl) ?_
  refine mjGo.op (pc' := 22) (F' := ([some (.ref 0), some (.int (nI e1)), some (.int i), some (.int (nI e2)), some (.int j), some (.int n), none, none], [.int (I 24 e1)], mjH I X)) (o := mjiald 22) rfl (fun _ => mjald_n (n := 8) (by omega) (by decide) (rfl) (rfl)) ?_
  refine mjGo.run 0 (pc' := 22) (F' := ([some (.ref 0), some (.int (nI e1)), some (.int i), some (.int (nI e2)), some (.int j), some (.int n), none, none], [.int (I 24 e1)], mjH I X)) (fun _ => rfl) ?_
  rw [show (I 24 e1) = 1 from hh1]
  refine mjGo.run 4 (pc' := 30) (F' := ([some (.ref 0), some (.int (nI e1)), some (.int i), some (.int (nI e2)), some (.int j), some (.int n), none, none], [.int (nI e2), .ref 24], mjH I X)) (fun _ => rfl) ?_
  refine mjGo.op (pc' := 31) (F' := ([some (.ref 0), some (.int (nI e1)), some (.int i), some (.int (nI e2)), some (.int j), some (.int n), none, none], [.int (I 24 e2)], mjH I X)) (o := mjiald 31) rfl (fun _ => mjald_n (n := 8) (by omega) (by decide) (rfl) (rfl)) ?_
  refine mjGo.run 0 (pc' := 31) (F' := ([some (.ref 0), some (.int (nI e1)), some (.int i), some (.int (nI e2)), some (.int j), some (.int n), none, none], [.int (I 24 e2)], mjH I X)) (fun _ => rfl) ?_
  rw [show (I 24 e2) = 0 from hh2]
  exact mjGo.ret 3 (fun _ => rfl) rfl
theorem c_xCp11 (d : Nat) {e1 e2 : Nat} {i j n : Int32} {I : Nat → Nat → Int32} {X : MX}(he1 : e1 < 8) (he2 : e2 < 8) (hh1 : I 24 e1 = 1) (hh2 : I 24 e2 = 1) : mjEv (d + 4) nyX11_copy [.ref 0, .int (nI e1), .int i, .int (nI e2), .int j, .int n] (mjH I X) (.inl (some (.int (-12)))) (mjH I X) := by
  refine mjEv.of ?_
  show mjGo (d + 4) nyX11_copy 0 ([some (.ref 0), some (.int (nI e1)), some (.int i), some (.int (nI e2)), some (.int j), some (.int n), none, none], [], mjH I X) _
  refine mjGo.run 1 (pc' := 1) (F' := ([some (.ref 0), some (.int (nI e1)), some (.int i), some (.int (nI e2)), some (.int j), some (.int n), none, none], [.int (nI e1)], mjH I X)) (fun _ => rfl) ?_
  refine mjGo.call (n := 1) (j := 77) (nx := 4) (o := some (.int 1)) (h' := mjH I X) (fun _ => rfl) ((by have q9 := c_xShelf (d + 3) (nI e1) (mjH I X); rw [xShelf_1 he1] at q9; exact q9)) ?_
  show mjGo _ _ 4 ([some (.ref 0), some (.int (nI e1)), some (.int i), some (.int (nI e2)), some (.int j), some (.int n), none, none], [.int 1], mjH I X) _
  refine mjGo.run 2 (pc' := 8) (F' := ([some (.ref 0), some (.int (nI e1)), some (.int i), some (.int (nI e2)), some (.int j), some (.int n), none, none], [.int (nI e2)], mjH I X)) (fun _ => rfl) ?_
  refine mjGo.call (n := 1) (j := 77) (nx := 11) (o := some (.int 1)) (h' := mjH I X) (fun _ => rfl) ((by have q9 := c_xShelf (d + 3) (nI e2) (mjH I X); rw [xShelf_1 he2] at q9; exact q9)) ?_
  show mjGo _ _ 11 ([some (.ref 0), some (.int (nI e1)), some (.int i), some (.int (nI e2)), some (.int j), some (.int n), none, none], [.int 1], mjH I X) _
  refine mjGo.run 4 (pc' := 21) (F' := ([some (.ref 0), some (.int (nI e1)), some (.int i), some (.int (nI e2)), some (.int j), some (.int n), none, none], [.int (nI e1), .ref 24], mjH I X)) (fun _ => rfl) ?_
  refine mjGo.op (pc' := 22) (F' := ([some (.ref 0), some (.int (nI e1)), some (.int i), some (.int (nI e2)), some (.int j), some (.int n), none, none], [.int (I 24 e1)], mjH I X)) (o := mjiald 22) rfl (fun _ => mjald_n (n := 8) (by omega) (by decide) (rfl) (rfl)) ?_
  refine mjGo.run 0 (pc' := 22) (F' := ([some (.ref 0), some (.int (nI e1)), some (.int i), some (.int (nI e2)), some (.int j), some (.int n), none, none], [.int (I 24 e1)], mjH I X)) (fun _ => rfl) ?_
  rw [show (I 24 e1) = 1 from hh1]
  refine mjGo.run 4 (pc' := 30) (F' := ([some (.ref 0), some (.int (nI e1)), some (.int i), some (.int (nI e2)), some (.int j), some (.int n), none, none], [.int (nI e2), .ref 24], mjH I X)) (fun _ => rfl) ?_
  refine mjGo.op (pc' := 31) (F' := ([some (.ref 0), some (.int (nI e1)), some (.int i), some (.int (nI e2)), some (.int j), some (.int n), none, none], [.int (I 24 e2)], mjH I X)) (o := mjiald 31) rfl (fun _ => mjald_n (n := 8) (by omega) (by decide) (rfl) (rfl)) ?_
  refine mjGo.run 0 (pc' := 31) (F' := ([some (.ref 0), some (.int (nI e1)), some (.int i), some (.int (nI e2)), some (.int j), some (.int n), none, none], [.int (I 24 e2)], mjH I X)) (fun _ => rfl) ?_
  rw [show (I 24 e2) = 1 from hh2]
  refine mjGo.run 3 (pc' := 39) (F' := ([some (.ref 0), some (.int (nI e1)), some (.int i), some (.int (nI e2)), some (.int j), some (.int n), none, none], [.int (nI e1), .ref 0], mjH I X)) (fun _ => rfl) ?_
  refine mjGo.call (n := 2) (j := 197) (nx := 42) (o := some (.int 0)) (h' := mjH I X) (fun _ => rfl) (c_hr0 _ he1 (by rw [hh1]; decide)) ?_
  show mjGo _ _ 42 ([some (.ref 0), some (.int (nI e1)), some (.int i), some (.int (nI e2)), some (.int j), some (.int n), none, none], [.int 0], mjH I X) _
  exact mjGo.ret 3 (fun _ => rfl) rfl
theorem c_xCp12 (d : Nat) {e1 e2 : Nat} {i j n : Int32} {I : Nat → Nat → Int32} {X : MX}(he1 : e1 < 8) (he2 : e2 < 8) (hh1 : I 24 e1 = 1) (hh2 : I 24 e2 = 2) : mjEv (d + 4) nyX11_copy [.ref 0, .int (nI e1), .int i, .int (nI e2), .int j, .int n] (mjH I X) (.inl (some (.int (-12)))) (mjH I X) := by
  refine mjEv.of ?_
  show mjGo (d + 4) nyX11_copy 0 ([some (.ref 0), some (.int (nI e1)), some (.int i), some (.int (nI e2)), some (.int j), some (.int n), none, none], [], mjH I X) _
  refine mjGo.run 1 (pc' := 1) (F' := ([some (.ref 0), some (.int (nI e1)), some (.int i), some (.int (nI e2)), some (.int j), some (.int n), none, none], [.int (nI e1)], mjH I X)) (fun _ => rfl) ?_
  refine mjGo.call (n := 1) (j := 77) (nx := 4) (o := some (.int 1)) (h' := mjH I X) (fun _ => rfl) ((by have q9 := c_xShelf (d + 3) (nI e1) (mjH I X); rw [xShelf_1 he1] at q9; exact q9)) ?_
  show mjGo _ _ 4 ([some (.ref 0), some (.int (nI e1)), some (.int i), some (.int (nI e2)), some (.int j), some (.int n), none, none], [.int 1], mjH I X) _
  refine mjGo.run 2 (pc' := 8) (F' := ([some (.ref 0), some (.int (nI e1)), some (.int i), some (.int (nI e2)), some (.int j), some (.int n), none, none], [.int (nI e2)], mjH I X)) (fun _ => rfl) ?_
  refine mjGo.call (n := 1) (j := 77) (nx := 11) (o := some (.int 1)) (h' := mjH I X) (fun _ => rfl) ((by have q9 := c_xShelf (d + 3) (nI e2) (mjH I X); rw [xShelf_1 he2] at q9; exact q9)) ?_
  show mjGo _ _ 11 ([some (.ref 0), some (.int (nI e1)), some (.int i), some (.int (nI e2)), some (.int j), some (.int n), none, none], [.int 1], mjH I X) _
  refine mjGo.run 4 (pc' := 21) (F' := ([some (.ref 0), some (.int (nI e1)), some (.int i), some (.int (nI e2)), some (.int j), some (.int n), none, none], [.int (nI e1), .ref 24], mjH I X)) (fun _ => rfl) ?_
  refine mjGo.op (pc' := 22) (F' := ([some (.ref 0), some (.int (nI e1)), some (.int i), some (.int (nI e2)), some (.int j), some (.int n), none, none], [.int (I 24 e1)], mjH I X)) (o := mjiald 22) rfl (fun _ => mjald_n (n := 8) (by omega) (by decide) (rfl) (rfl)) ?_
  refine mjGo.run 0 (pc' := 22) (F' := ([some (.ref 0), some (.int (nI e1)), some (.int i), some (.int (nI e2)), some (.int j), some (.int n), none, none], [.int (I 24 e1)], mjH I X)) (fun _ => rfl) ?_
  rw [show (I 24 e1) = 1 from hh1]
  refine mjGo.run 4 (pc' := 30) (F' := ([some (.ref 0), some (.int (nI e1)), some (.int i), some (.int (nI e2)), some (.int j), some (.int n), none, none], [.int (nI e2), .ref 24], mjH I X)) (fun _ => rfl) ?_
  refine mjGo.op (pc' := 31) (F' := ([some (.ref 0), some (.int (nI e1)), some (.int i), some (.int (nI e2)), some (.int j), some (.int n), none, none], [.int (I 24 e2)], mjH I X)) (o := mjiald 31) rfl (fun _ => mjald_n (n := 8) (by omega) (by decide) (rfl) (rfl)) ?_
  refine mjGo.run 0 (pc' := 31) (F' := ([some (.ref 0), some (.int (nI e1)), some (.int i), some (.int (nI e2)), some (.int j), some (.int n), none, none], [.int (I 24 e2)], mjH I X)) (fun _ => rfl) ?_
  rw [show (I 24 e2) = 2 from hh2]
  refine mjGo.run 3 (pc' := 39) (F' := ([some (.ref 0), some (.int (nI e1)), some (.int i), some (.int (nI e2)), some (.int j), some (.int n), none, none], [.int (nI e1), .ref 0], mjH I X)) (fun _ => rfl) ?_
  refine mjGo.call (n := 2) (j := 197) (nx := 42) (o := some (.int 0)) (h' := mjH I X) (fun _ => rfl) (c_hr0 _ he1 (by rw [hh1]; decide)) ?_
  show mjGo _ _ 42 ([some (.ref 0), some (.int (nI e1)), some (.int i), some (.int (nI e2)), some (.int j), some (.int n), none, none], [.int 0], mjH I X) _
  exact mjGo.ret 3 (fun _ => rfl) rfl
theorem c_xCp20 (d : Nat) {e1 e2 : Nat} {i j n : Int32} {I : Nat → Nat → Int32} {X : MX}(he1 : e1 < 8) (he2 : e2 < 8) (hh1 : I 24 e1 = 2) (hh2 : I 24 e2 = 0) : mjEv (d + 4) nyX11_copy [.ref 0, .int (nI e1), .int i, .int (nI e2), .int j, .int n] (mjH I X) (.inl (some (.int (-11)))) (mjH I X) := by
  refine mjEv.of ?_
  show mjGo (d + 4) nyX11_copy 0 ([some (.ref 0), some (.int (nI e1)), some (.int i), some (.int (nI e2)), some (.int j), some (.int n), none, none], [], mjH I X) _
  refine mjGo.run 1 (pc' := 1) (F' := ([some (.ref 0), some (.int (nI e1)), some (.int i), some (.int (nI e2)), some (.int j), some (.int n), none, none], [.int (nI e1)], mjH I X)) (fun _ => rfl) ?_
  refine mjGo.call (n := 1) (j := 77) (nx := 4) (o := some (.int 1)) (h' := mjH I X) (fun _ => rfl) ((by have q9 := c_xShelf (d + 3) (nI e1) (mjH I X); rw [xShelf_1 he1] at q9; exact q9)) ?_
  show mjGo _ _ 4 ([some (.ref 0), some (.int (nI e1)), some (.int i), some (.int (nI e2)), some (.int j), some (.int n), none, none], [.int 1], mjH I X) _
  refine mjGo.run 2 (pc' := 8) (F' := ([some (.ref 0), some (.int (nI e1)), some (.int i), some (.int (nI e2)), some (.int j), some (.int n), none, none], [.int (nI e2)], mjH I X)) (fun _ => rfl) ?_
  refine mjGo.call (n := 1) (j := 77) (nx := 11) (o := some (.int 1)) (h' := mjH I X) (fun _ => rfl) ((by have q9 := c_xShelf (d + 3) (nI e2) (mjH I X); rw [xShelf_1 he2] at q9; exact q9)) ?_
  show mjGo _ _ 11 ([some (.ref 0), some (.int (nI e1)), some (.int i), some (.int (nI e2)), some (.int j), some (.int n), none, none], [.int 1], mjH I X) _
  refine mjGo.run 4 (pc' := 21) (F' := ([some (.ref 0), some (.int (nI e1)), some (.int i), some (.int (nI e2)), some (.int j), some (.int n), none, none], [.int (nI e1), .ref 24], mjH I X)) (fun _ => rfl) ?_
  refine mjGo.op (pc' := 22) (F' := ([some (.ref 0), some (.int (nI e1)), some (.int i), some (.int (nI e2)), some (.int j), some (.int n), none, none], [.int (I 24 e1)], mjH I X)) (o := mjiald 22) rfl (fun _ => mjald_n (n := 8) (by omega) (by decide) (rfl) (rfl)) ?_
  refine mjGo.run 0 (pc' := 22) (F' := ([some (.ref 0), some (.int (nI e1)), some (.int i), some (.int (nI e2)), some (.int j), some (.int n), none, none], [.int (I 24 e1)], mjH I X)) (fun _ => rfl) ?_
  rw [show (I 24 e1) = 2 from hh1]
  refine mjGo.run 4 (pc' := 30) (F' := ([some (.ref 0), some (.int (nI e1)), some (.int i), some (.int (nI e2)), some (.int j), some (.int n), none, none], [.int (nI e2), .ref 24], mjH I X)) (fun _ => rfl) ?_
  refine mjGo.op (pc' := 31) (F' := ([some (.ref 0), some (.int (nI e1)), some (.int i), some (.int (nI e2)), some (.int j), some (.int n), none, none], [.int (I 24 e2)], mjH I X)) (o := mjiald 31) rfl (fun _ => mjald_n (n := 8) (by omega) (by decide) (rfl) (rfl)) ?_
  refine mjGo.run 0 (pc' := 31) (F' := ([some (.ref 0), some (.int (nI e1)), some (.int i), some (.int (nI e2)), some (.int j), some (.int n), none, none], [.int (I 24 e2)], mjH I X)) (fun _ => rfl) ?_
  rw [show (I 24 e2) = 0 from hh2]
  exact mjGo.ret 3 (fun _ => rfl) rfl
theorem c_xCp21 (d : Nat) {e1 e2 : Nat} {i j n : Int32} {I : Nat → Nat → Int32} {X : MX}(he1 : e1 < 8) (he2 : e2 < 8) (hh1 : I 24 e1 = 2) (hh2 : I 24 e2 = 1) : mjEv (d + 4) nyX11_copy [.ref 0, .int (nI e1), .int i, .int (nI e2), .int j, .int n] (mjH I X) (.inl (some (.int (-12)))) (mjH I X) := by
  refine mjEv.of ?_
  show mjGo (d + 4) nyX11_copy 0 ([some (.ref 0), some (.int (nI e1)), some (.int i), some (.int (nI e2)), some (.int j), some (.int n), none, none], [], mjH I X) _
  refine mjGo.run 1 (pc' := 1) (F' := ([some (.ref 0), some (.int (nI e1)), some (.int i), some (.int (nI e2)), some (.int j), some (.int n), none, none], [.int (nI e1)], mjH I X)) (fun _ => rfl) ?_
  refine mjGo.call (n := 1) (j := 77) (nx := 4) (o := some (.int 1)) (h' := mjH I X) (fun _ => rfl) ((by have q9 := c_xShelf (d + 3) (nI e1) (mjH I X); rw [xShelf_1 he1] at q9; exact q9)) ?_
  show mjGo _ _ 4 ([some (.ref 0), some (.int (nI e1)), some (.int i), some (.int (nI e2)), some (.int j), some (.int n), none, none], [.int 1], mjH I X) _
  refine mjGo.run 2 (pc' := 8) (F' := ([some (.ref 0), some (.int (nI e1)), some (.int i), some (.int (nI e2)), some (.int j), some (.int n), none, none], [.int (nI e2)], mjH I X)) (fun _ => rfl) ?_
  refine mjGo.call (n := 1) (j := 77) (nx := 11) (o := some (.int 1)) (h' := mjH I X) (fun _ => rfl) ((by have q9 := c_xShelf (d + 3) (nI e2) (mjH I X); rw [xShelf_1 he2] at q9; exact q9)) ?_
  show mjGo _ _ 11 ([some (.ref 0), some (.int (nI e1)), some (.int i), some (.int (nI e2)), some (.int j), some (.int n), none, none], [.int 1], mjH I X) _
  refine mjGo.run 4 (pc' := 21) (F' := ([some (.ref 0), some (.int (nI e1)), some (.int i), some (.int (nI e2)), some (.int j), some (.int n), none, none], [.int (nI e1), .ref 24], mjH I X)) (fun _ => rfl) ?_
  refine mjGo.op (pc' := 22) (F' := ([some (.ref 0), some (.int (nI e1)), some (.int i), some (.int (nI e2)), some (.int j), some (.int n), none, none], [.int (I 24 e1)], mjH I X)) (o := mjiald 22) rfl (fun _ => mjald_n (n := 8) (by omega) (by decide) (rfl) (rfl)) ?_
  refine mjGo.run 0 (pc' := 22) (F' := ([some (.ref 0), some (.int (nI e1)), some (.int i), some (.int (nI e2)), some (.int j), some (.int n), none, none], [.int (I 24 e1)], mjH I X)) (fun _ => rfl) ?_
  rw [show (I 24 e1) = 2 from hh1]
  refine mjGo.run 4 (pc' := 30) (F' := ([some (.ref 0), some (.int (nI e1)), some (.int i), some (.int (nI e2)), some (.int j), some (.int n), none, none], [.int (nI e2), .ref 24], mjH I X)) (fun _ => rfl) ?_
  refine mjGo.op (pc' := 31) (F' := ([some (.ref 0), some (.int (nI e1)), some (.int i), some (.int (nI e2)), some (.int j), some (.int n), none, none], [.int (I 24 e2)], mjH I X)) (o := mjiald 31) rfl (fun _ => mjald_n (n := 8) (by omega) (by decide) (rfl) (rfl)) ?_
  refine mjGo.run 0 (pc' := 31) (F' := ([some (.ref 0), some (.int (nI e1)), some (.int i), some (.int (nI e2)), some (.int j), some (.int n), none, none], [.int (I 24 e2)], mjH I X)) (fun _ => rfl) ?_
  rw [show (I 24 e2) = 1 from hh2]
  refine mjGo.run 3 (pc' := 39) (F' := ([some (.ref 0), some (.int (nI e1)), some (.int i), some (.int (nI e2)), some (.int j), some (.int n), none, none], [.int (nI e1), .ref 0], mjH I X)) (fun _ => rfl) ?_
  refine mjGo.call (n := 2) (j := 197) (nx := 42) (o := some (.int 1)) (h' := mjH I X) (fun _ => rfl) (c_hr1 _ he1 hh1) ?_
  show mjGo _ _ 42 ([some (.ref 0), some (.int (nI e1)), some (.int i), some (.int (nI e2)), some (.int j), some (.int n), none, none], [.int 1], mjH I X) _
  refine mjGo.run 3 (pc' := 47) (F' := ([some (.ref 0), some (.int (nI e1)), some (.int i), some (.int (nI e2)), some (.int j), some (.int n), none, none], [.int (nI e2), .ref 0], mjH I X)) (fun _ => rfl) ?_
  refine mjGo.call (n := 2) (j := 197) (nx := 50) (o := some (.int 0)) (h' := mjH I X) (fun _ => rfl) (c_hr0 _ he2 (by rw [hh2]; decide)) ?_
  show mjGo _ _ 50 ([some (.ref 0), some (.int (nI e1)), some (.int i), some (.int (nI e2)), some (.int j), some (.int n), none, none], [.int 0], mjH I X) _
  exact mjGo.ret 3 (fun _ => rfl) rfl
theorem c_xCpS (d : Nat) {e1 e2 : Nat} {i j n : Int32} {I : Nat → Nat → Int32} {X : MX}(he1 : e1 < 8) (he2 : e2 < 8) (hh1 : I 24 e1 = 2) (hh2 : I 24 e2 = 2) (hq : ¬ I (27 + 2 * e1) 1 = I (27 + 2 * e2) 1) : mjEv (d + 4) nyX11_copy [.ref 0, .int (nI e1), .int i, .int (nI e2), .int j, .int n] (mjH I X) (.inl (some (.int (-12)))) (mjH I X) := by
  refine mjEv.of ?_
  show mjGo (d + 4) nyX11_copy 0 ([some (.ref 0), some (.int (nI e1)), some (.int i), some (.int (nI e2)), some (.int j), some (.int n), none, none], [], mjH I X) _
  refine mjGo.run 1 (pc' := 1) (F' := ([some (.ref 0), some (.int (nI e1)), some (.int i), some (.int (nI e2)), some (.int j), some (.int n), none, none], [.int (nI e1)], mjH I X)) (fun _ => rfl) ?_
  refine mjGo.call (n := 1) (j := 77) (nx := 4) (o := some (.int 1)) (h' := mjH I X) (fun _ => rfl) ((by have q9 := c_xShelf (d + 3) (nI e1) (mjH I X); rw [xShelf_1 he1] at q9; exact q9)) ?_
  show mjGo _ _ 4 ([some (.ref 0), some (.int (nI e1)), some (.int i), some (.int (nI e2)), some (.int j), some (.int n), none, none], [.int 1], mjH I X) _
  refine mjGo.run 2 (pc' := 8) (F' := ([some (.ref 0), some (.int (nI e1)), some (.int i), some (.int (nI e2)), some (.int j), some (.int n), none, none], [.int (nI e2)], mjH I X)) (fun _ => rfl) ?_
  refine mjGo.call (n := 1) (j := 77) (nx := 11) (o := some (.int 1)) (h' := mjH I X) (fun _ => rfl) ((by have q9 := c_xShelf (d + 3) (nI e2) (mjH I X); rw [xShelf_1 he2] at q9; exact q9)) ?_
  show mjGo _ _ 11 ([some (.ref 0), some (.int (nI e1)), some (.int i), some (.int (nI e2)), some (.int j), some (.int n), none, none], [.int 1], mjH I X) _
  refine mjGo.run 4 (pc' := 21) (F' := ([some (.ref 0), some (.int (nI e1)), some (.int i), some (.int (nI e2)), some (.int j), some (.int n), none, none], [.int (nI e1), .ref 24], mjH I X)) (fun _ => rfl) ?_
  refine mjGo.op (pc' := 22) (F' := ([some (.ref 0), some (.int (nI e1)), some (.int i), some (.int (nI e2)), some (.int j), some (.int n), none, none], [.int (I 24 e1)], mjH I X)) (o := mjiald 22) rfl (fun _ => mjald_n (n := 8) (by omega) (by decide) (rfl) (rfl)) ?_
  refine mjGo.run 0 (pc' := 22) (F' := ([some (.ref 0), some (.int (nI e1)), some (.int i), some (.int (nI e2)), some (.int j), some (.int n), none, none], [.int (I 24 e1)], mjH I X)) (fun _ => rfl) ?_
  rw [show (I 24 e1) = 2 from hh1]
  refine mjGo.run 4 (pc' := 30) (F' := ([some (.ref 0), some (.int (nI e1)), some (.int i), some (.int (nI e2)), some (.int j), some (.int n), none, none], [.int (nI e2), .ref 24], mjH I X)) (fun _ => rfl) ?_
  refine mjGo.op (pc' := 31) (F' := ([some (.ref 0), some (.int (nI e1)), some (.int i), some (.int (nI e2)), some (.int j), some (.int n), none, none], [.int (I 24 e2)], mjH I X)) (o := mjiald 31) rfl (fun _ => mjald_n (n := 8) (by omega) (by decide) (rfl) (rfl)) ?_
  refine mjGo.run 0 (pc' := 31) (F' := ([some (.ref 0), some (.int (nI e1)), some (.int i), some (.int (nI e2)), some (.int j), some (.int n), none, none], [.int (I 24 e2)], mjH I X)) (fun _ => rfl) ?_
  rw [show (I 24 e2) = 2 from hh2]
  refine mjGo.run 3 (pc' := 39) (F' := ([some (.ref 0), some (.int (nI e1)), some (.int i), some (.int (nI e2)), some (.int j), some (.int n), none, none], [.int (nI e1), .ref 0], mjH I X)) (fun _ => rfl) ?_
  refine mjGo.call (n := 2) (j := 197) (nx := 42) (o := some (.int 1)) (h' := mjH I X) (fun _ => rfl) (c_hr1 _ he1 hh1) ?_
  show mjGo _ _ 42 ([some (.ref 0), some (.int (nI e1)), some (.int i), some (.int (nI e2)), some (.int j), some (.int n), none, none], [.int 1], mjH I X) _
  refine mjGo.run 3 (pc' := 47) (F' := ([some (.ref 0), some (.int (nI e1)), some (.int i), some (.int (nI e2)), some (.int j), some (.int n), none, none], [.int (nI e2), .ref 0], mjH I X)) (fun _ => rfl) ?_
  refine mjGo.call (n := 2) (j := 197) (nx := 50) (o := some (.int 1)) (h' := mjH I X) (fun _ => rfl) (c_hr1 _ he2 hh2) ?_
  show mjGo _ _ 50 ([some (.ref 0), some (.int (nI e1)), some (.int i), some (.int (nI e2)), some (.int j), some (.int n), none, none], [.int 1], mjH I X) _
  refine mjGo.run 4 (pc' := 61) (F' := ([some (.ref 0), some (.int (nI e1)), some (.int i), some (.int (nI e2)), some (.int j), some (.int n), none, none], [.int (nI e1), .ref 26], mjH I X)) (fun _ => rfl) ?_
  refine mjGo.op (pc' := 62) (F' := ([some (.ref 0), some (.int (nI e1)), some (.int i), some (.int (nI e2)), some (.int j), some (.int n), none, none], [.ref (27 + 2 * e1)], mjH I X)) (o := mjaald 15 62) rfl (fun _ => row_aald he1) ?_
  refine mjGo.run 4 (pc' := 69) (F' := ([some (.ref 0), some (.int (nI e1)), some (.int i), some (.int (nI e2)), some (.int j), some (.int n), some (.ref (27 + 2 * e1)), none], [.int (nI e2), .ref 26], mjH I X)) (fun _ => rfl) ?_
  refine mjGo.op (pc' := 70) (F' := ([some (.ref 0), some (.int (nI e1)), some (.int i), some (.int (nI e2)), some (.int j), some (.int n), some (.ref (27 + 2 * e1)), none], [.ref (27 + 2 * e2)], mjH I X)) (o := mjaald 15 70) rfl (fun _ => row_aald he2) ?_
  refine mjGo.run 2 (pc' := 74) (F' := ([some (.ref 0), some (.int (nI e1)), some (.int i), some (.int (nI e2)), some (.int j), some (.int n), some (.ref (27 + 2 * e1)), some (.ref (27 + 2 * e2))], [.ref (27 + 2 * e1)], mjH I X)) (fun _ => rfl) ?_
  refine mjGo.op (pc' := 77) (F' := ([some (.ref 0), some (.int (nI e1)), some (.int i), some (.int (nI e2)), some (.int j), some (.int n), some (.ref (27 + 2 * e1)), some (.ref (27 + 2 * e2))], [.int (I (27 + 2 * e1) 1)], mjH I X)) (o := mjgetI [6] 1 77) rfl (fun _ => row_getI he1) ?_
  refine mjGo.run 1 (pc' := 79) (F' := ([some (.ref 0), some (.int (nI e1)), some (.int i), some (.int (nI e2)), some (.int j), some (.int n), some (.ref (27 + 2 * e1)), some (.ref (27 + 2 * e2))], [.ref (27 + 2 * e2), .int (I (27 + 2 * e1) 1)], mjH I X)) (fun _ => rfl) ?_
  refine mjGo.op (pc' := 82) (F' := ([some (.ref 0), some (.int (nI e1)), some (.int i), some (.int (nI e2)), some (.int j), some (.int n), some (.ref (27 + 2 * e1)), some (.ref (27 + 2 * e2))], [.int (I (27 + 2 * e2) 1), .int (I (27 + 2 * e1) 1)], mjH I X)) (o := mjgetI [6] 1 82) rfl (fun _ => row_getI he2) ?_
  refine mjGo.run 1 (pc' := (bif decide ((I (27 + 2 * e1) 1) = (I (27 + 2 * e2) 1)) then 88 else 85)) (F' := ([some (.ref 0), some (.int (nI e1)), some (.int i), some (.int (nI e2)), some (.int j), some (.int n), some (.ref (27 + 2 * e1)), some (.ref (27 + 2 * e2))], [], mjH I X)) (fun _ => rfl) ?_
  refine mjGo.brF (hq) ?_
  show mjGo _ _ 85 _ _
  exact mjGo.ret 2 (fun _ => rfl) rfl
theorem c_xCpN1 (d : Nat) {e1 e2 sz1 sz2 : Nat} {i j n : Int32} {I : Nat → Nat → Int32} {X : MX}(he1 : e1 < 8) (he2 : e2 < 8) (hh1 : I 24 e1 = 2) (hh2 : I 24 e2 = 2) (hq : I (27 + 2 * e1) 1 = I (27 + 2 * e2) 1) (hz1 : I (27 + 2 * e1) 2 = nI sz1) (hs1 : sz1 ≤ 100) (hz2 : I (27 + 2 * e2) 2 = nI sz2) (hs2 : sz2 ≤ 100) (h1 : ¬ okC sz1 i n) : mjEv (d + 4) nyX11_copy [.ref 0, .int (nI e1), .int i, .int (nI e2), .int j, .int n] (mjH I X) (.inl (some (.int (-13)))) (mjH I X) := by
  refine mjEv.of ?_
  show mjGo (d + 4) nyX11_copy 0 ([some (.ref 0), some (.int (nI e1)), some (.int i), some (.int (nI e2)), some (.int j), some (.int n), none, none], [], mjH I X) _
  refine mjGo.run 1 (pc' := 1) (F' := ([some (.ref 0), some (.int (nI e1)), some (.int i), some (.int (nI e2)), some (.int j), some (.int n), none, none], [.int (nI e1)], mjH I X)) (fun _ => rfl) ?_
  refine mjGo.call (n := 1) (j := 77) (nx := 4) (o := some (.int 1)) (h' := mjH I X) (fun _ => rfl) ((by have q9 := c_xShelf (d + 3) (nI e1) (mjH I X); rw [xShelf_1 he1] at q9; exact q9)) ?_
  show mjGo _ _ 4 ([some (.ref 0), some (.int (nI e1)), some (.int i), some (.int (nI e2)), some (.int j), some (.int n), none, none], [.int 1], mjH I X) _
  refine mjGo.run 2 (pc' := 8) (F' := ([some (.ref 0), some (.int (nI e1)), some (.int i), some (.int (nI e2)), some (.int j), some (.int n), none, none], [.int (nI e2)], mjH I X)) (fun _ => rfl) ?_
  refine mjGo.call (n := 1) (j := 77) (nx := 11) (o := some (.int 1)) (h' := mjH I X) (fun _ => rfl) ((by have q9 := c_xShelf (d + 3) (nI e2) (mjH I X); rw [xShelf_1 he2] at q9; exact q9)) ?_
  show mjGo _ _ 11 ([some (.ref 0), some (.int (nI e1)), some (.int i), some (.int (nI e2)), some (.int j), some (.int n), none, none], [.int 1], mjH I X) _
  refine mjGo.run 4 (pc' := 21) (F' := ([some (.ref 0), some (.int (nI e1)), some (.int i), some (.int (nI e2)), some (.int j), some (.int n), none, none], [.int (nI e1), .ref 24], mjH I X)) (fun _ => rfl) ?_
  refine mjGo.op (pc' := 22) (F' := ([some (.ref 0), some (.int (nI e1)), some (.int i), some (.int (nI e2)), some (.int j), some (.int n), none, none], [.int (I 24 e1)], mjH I X)) (o := mjiald 22) rfl (fun _ => mjald_n (n := 8) (by omega) (by decide) (rfl) (rfl)) ?_
  refine mjGo.run 0 (pc' := 22) (F' := ([some (.ref 0), some (.int (nI e1)), some (.int i), some (.int (nI e2)), some (.int j), some (.int n), none, none], [.int (I 24 e1)], mjH I X)) (fun _ => rfl) ?_
  rw [show (I 24 e1) = 2 from hh1]
  refine mjGo.run 4 (pc' := 30) (F' := ([some (.ref 0), some (.int (nI e1)), some (.int i), some (.int (nI e2)), some (.int j), some (.int n), none, none], [.int (nI e2), .ref 24], mjH I X)) (fun _ => rfl) ?_
  refine mjGo.op (pc' := 31) (F' := ([some (.ref 0), some (.int (nI e1)), some (.int i), some (.int (nI e2)), some (.int j), some (.int n), none, none], [.int (I 24 e2)], mjH I X)) (o := mjiald 31) rfl (fun _ => mjald_n (n := 8) (by omega) (by decide) (rfl) (rfl)) ?_
  refine mjGo.run 0 (pc' := 31) (F' := ([some (.ref 0), some (.int (nI e1)), some (.int i), some (.int (nI e2)), some (.int j), some (.int n), none, none], [.int (I 24 e2)], mjH I X)) (fun _ => rfl) ?_
  rw [show (I 24 e2) = 2 from hh2]
  refine mjGo.run 3 (pc' := 39) (F' := ([some (.ref 0), some (.int (nI e1)), some (.int i), some (.int (nI e2)), some (.int j), some (.int n), none, none], [.int (nI e1), .ref 0], mjH I X)) (fun _ => rfl) ?_
  refine mjGo.call (n := 2) (j := 197) (nx := 42) (o := some (.int 1)) (h' := mjH I X) (fun _ => rfl) (c_hr1 _ he1 hh1) ?_
  show mjGo _ _ 42 ([some (.ref 0), some (.int (nI e1)), some (.int i), some (.int (nI e2)), some (.int j), some (.int n), none, none], [.int 1], mjH I X) _
  refine mjGo.run 3 (pc' := 47) (F' := ([some (.ref 0), some (.int (nI e1)), some (.int i), some (.int (nI e2)), some (.int j), some (.int n), none, none], [.int (nI e2), .ref 0], mjH I X)) (fun _ => rfl) ?_
  refine mjGo.call (n := 2) (j := 197) (nx := 50) (o := some (.int 1)) (h' := mjH I X) (fun _ => rfl) (c_hr1 _ he2 hh2) ?_
  show mjGo _ _ 50 ([some (.ref 0), some (.int (nI e1)), some (.int i), some (.int (nI e2)), some (.int j), some (.int n), none, none], [.int 1], mjH I X) _
  refine mjGo.run 4 (pc' := 61) (F' := ([some (.ref 0), some (.int (nI e1)), some (.int i), some (.int (nI e2)), some (.int j), some (.int n), none, none], [.int (nI e1), .ref 26], mjH I X)) (fun _ => rfl) ?_
  refine mjGo.op (pc' := 62) (F' := ([some (.ref 0), some (.int (nI e1)), some (.int i), some (.int (nI e2)), some (.int j), some (.int n), none, none], [.ref (27 + 2 * e1)], mjH I X)) (o := mjaald 15 62) rfl (fun _ => row_aald he1) ?_
  refine mjGo.run 4 (pc' := 69) (F' := ([some (.ref 0), some (.int (nI e1)), some (.int i), some (.int (nI e2)), some (.int j), some (.int n), some (.ref (27 + 2 * e1)), none], [.int (nI e2), .ref 26], mjH I X)) (fun _ => rfl) ?_
  refine mjGo.op (pc' := 70) (F' := ([some (.ref 0), some (.int (nI e1)), some (.int i), some (.int (nI e2)), some (.int j), some (.int n), some (.ref (27 + 2 * e1)), none], [.ref (27 + 2 * e2)], mjH I X)) (o := mjaald 15 70) rfl (fun _ => row_aald he2) ?_
  refine mjGo.run 2 (pc' := 74) (F' := ([some (.ref 0), some (.int (nI e1)), some (.int i), some (.int (nI e2)), some (.int j), some (.int n), some (.ref (27 + 2 * e1)), some (.ref (27 + 2 * e2))], [.ref (27 + 2 * e1)], mjH I X)) (fun _ => rfl) ?_
  refine mjGo.op (pc' := 77) (F' := ([some (.ref 0), some (.int (nI e1)), some (.int i), some (.int (nI e2)), some (.int j), some (.int n), some (.ref (27 + 2 * e1)), some (.ref (27 + 2 * e2))], [.int (I (27 + 2 * e1) 1)], mjH I X)) (o := mjgetI [6] 1 77) rfl (fun _ => row_getI he1) ?_
  refine mjGo.run 1 (pc' := 79) (F' := ([some (.ref 0), some (.int (nI e1)), some (.int i), some (.int (nI e2)), some (.int j), some (.int n), some (.ref (27 + 2 * e1)), some (.ref (27 + 2 * e2))], [.ref (27 + 2 * e2), .int (I (27 + 2 * e1) 1)], mjH I X)) (fun _ => rfl) ?_
  refine mjGo.op (pc' := 82) (F' := ([some (.ref 0), some (.int (nI e1)), some (.int i), some (.int (nI e2)), some (.int j), some (.int n), some (.ref (27 + 2 * e1)), some (.ref (27 + 2 * e2))], [.int (I (27 + 2 * e2) 1), .int (I (27 + 2 * e1) 1)], mjH I X)) (o := mjgetI [6] 1 82) rfl (fun _ => row_getI he2) ?_
  refine mjGo.run 1 (pc' := (bif decide ((I (27 + 2 * e1) 1) = (I (27 + 2 * e2) 1)) then 88 else 85)) (F' := ([some (.ref 0), some (.int (nI e1)), some (.int i), some (.int (nI e2)), some (.int j), some (.int n), some (.ref (27 + 2 * e1)), some (.ref (27 + 2 * e2))], [], mjH I X)) (fun _ => rfl) ?_
  refine mjGo.brT (hq) ?_
  show mjGo _ _ 88 _ _
  refine mjGo.run 3 (pc' := 93) (F' := ([some (.ref 0), some (.int (nI e1)), some (.int i), some (.int (nI e2)), some (.int j), some (.int n), some (.ref (27 + 2 * e1)), some (.ref (27 + 2 * e2))], [.int n, .int i, .ref (27 + 2 * e1)], mjH I X)) (fun _ => rfl) ?_
  refine mjGo.callL (o := some (.int 0)) (h' := mjH I X) (nx := 96) rfl rfl rfl ((row_N he1).1) ⟨_, row_lk he1, (by have q9 := c_xHasPs (d + 3) (I := I) (X := X) e1 i n he1; rw [xHasPs_n hz1 hs1 h1] at q9; exact q9)⟩ ?_
  show mjGo _ _ 96 ([some (.ref 0), some (.int (nI e1)), some (.int i), some (.int (nI e2)), some (.int j), some (.int n), some (.ref (27 + 2 * e1)), some (.ref (27 + 2 * e2))], [.int 0], mjH I X) _
  exact mjGo.ret 3 (fun _ => rfl) rfl
theorem c_xCpN2 (d : Nat) {e1 e2 sz1 sz2 : Nat} {i j n : Int32} {I : Nat → Nat → Int32} {X : MX}(he1 : e1 < 8) (he2 : e2 < 8) (hh1 : I 24 e1 = 2) (hh2 : I 24 e2 = 2) (hq : I (27 + 2 * e1) 1 = I (27 + 2 * e2) 1) (hz1 : I (27 + 2 * e1) 2 = nI sz1) (hs1 : sz1 ≤ 100) (hz2 : I (27 + 2 * e2) 2 = nI sz2) (hs2 : sz2 ≤ 100) (h1 : okC sz1 i n) (h2 : ¬ okC sz2 j n) : mjEv (d + 4) nyX11_copy [.ref 0, .int (nI e1), .int i, .int (nI e2), .int j, .int n] (mjH I X) (.inl (some (.int (-13)))) (mjH I X) := by
  refine mjEv.of ?_
  show mjGo (d + 4) nyX11_copy 0 ([some (.ref 0), some (.int (nI e1)), some (.int i), some (.int (nI e2)), some (.int j), some (.int n), none, none], [], mjH I X) _
  refine mjGo.run 1 (pc' := 1) (F' := ([some (.ref 0), some (.int (nI e1)), some (.int i), some (.int (nI e2)), some (.int j), some (.int n), none, none], [.int (nI e1)], mjH I X)) (fun _ => rfl) ?_
  refine mjGo.call (n := 1) (j := 77) (nx := 4) (o := some (.int 1)) (h' := mjH I X) (fun _ => rfl) ((by have q9 := c_xShelf (d + 3) (nI e1) (mjH I X); rw [xShelf_1 he1] at q9; exact q9)) ?_
  show mjGo _ _ 4 ([some (.ref 0), some (.int (nI e1)), some (.int i), some (.int (nI e2)), some (.int j), some (.int n), none, none], [.int 1], mjH I X) _
  refine mjGo.run 2 (pc' := 8) (F' := ([some (.ref 0), some (.int (nI e1)), some (.int i), some (.int (nI e2)), some (.int j), some (.int n), none, none], [.int (nI e2)], mjH I X)) (fun _ => rfl) ?_
  refine mjGo.call (n := 1) (j := 77) (nx := 11) (o := some (.int 1)) (h' := mjH I X) (fun _ => rfl) ((by have q9 := c_xShelf (d + 3) (nI e2) (mjH I X); rw [xShelf_1 he2] at q9; exact q9)) ?_
  show mjGo _ _ 11 ([some (.ref 0), some (.int (nI e1)), some (.int i), some (.int (nI e2)), some (.int j), some (.int n), none, none], [.int 1], mjH I X) _
  refine mjGo.run 4 (pc' := 21) (F' := ([some (.ref 0), some (.int (nI e1)), some (.int i), some (.int (nI e2)), some (.int j), some (.int n), none, none], [.int (nI e1), .ref 24], mjH I X)) (fun _ => rfl) ?_
  refine mjGo.op (pc' := 22) (F' := ([some (.ref 0), some (.int (nI e1)), some (.int i), some (.int (nI e2)), some (.int j), some (.int n), none, none], [.int (I 24 e1)], mjH I X)) (o := mjiald 22) rfl (fun _ => mjald_n (n := 8) (by omega) (by decide) (rfl) (rfl)) ?_
  refine mjGo.run 0 (pc' := 22) (F' := ([some (.ref 0), some (.int (nI e1)), some (.int i), some (.int (nI e2)), some (.int j), some (.int n), none, none], [.int (I 24 e1)], mjH I X)) (fun _ => rfl) ?_
  rw [show (I 24 e1) = 2 from hh1]
  refine mjGo.run 4 (pc' := 30) (F' := ([some (.ref 0), some (.int (nI e1)), some (.int i), some (.int (nI e2)), some (.int j), some (.int n), none, none], [.int (nI e2), .ref 24], mjH I X)) (fun _ => rfl) ?_
  refine mjGo.op (pc' := 31) (F' := ([some (.ref 0), some (.int (nI e1)), some (.int i), some (.int (nI e2)), some (.int j), some (.int n), none, none], [.int (I 24 e2)], mjH I X)) (o := mjiald 31) rfl (fun _ => mjald_n (n := 8) (by omega) (by decide) (rfl) (rfl)) ?_
  refine mjGo.run 0 (pc' := 31) (F' := ([some (.ref 0), some (.int (nI e1)), some (.int i), some (.int (nI e2)), some (.int j), some (.int n), none, none], [.int (I 24 e2)], mjH I X)) (fun _ => rfl) ?_
  rw [show (I 24 e2) = 2 from hh2]
  refine mjGo.run 3 (pc' := 39) (F' := ([some (.ref 0), some (.int (nI e1)), some (.int i), some (.int (nI e2)), some (.int j), some (.int n), none, none], [.int (nI e1), .ref 0], mjH I X)) (fun _ => rfl) ?_
  refine mjGo.call (n := 2) (j := 197) (nx := 42) (o := some (.int 1)) (h' := mjH I X) (fun _ => rfl) (c_hr1 _ he1 hh1) ?_
  show mjGo _ _ 42 ([some (.ref 0), some (.int (nI e1)), some (.int i), some (.int (nI e2)), some (.int j), some (.int n), none, none], [.int 1], mjH I X) _
  refine mjGo.run 3 (pc' := 47) (F' := ([some (.ref 0), some (.int (nI e1)), some (.int i), some (.int (nI e2)), some (.int j), some (.int n), none, none], [.int (nI e2), .ref 0], mjH I X)) (fun _ => rfl) ?_
  refine mjGo.call (n := 2) (j := 197) (nx := 50) (o := some (.int 1)) (h' := mjH I X) (fun _ => rfl) (c_hr1 _ he2 hh2) ?_
  show mjGo _ _ 50 ([some (.ref 0), some (.int (nI e1)), some (.int i), some (.int (nI e2)), some (.int j), some (.int n), none, none], [.int 1], mjH I X) _
  refine mjGo.run 4 (pc' := 61) (F' := ([some (.ref 0), some (.int (nI e1)), some (.int i), some (.int (nI e2)), some (.int j), some (.int n), none, none], [.int (nI e1), .ref 26], mjH I X)) (fun _ => rfl) ?_
  refine mjGo.op (pc' := 62) (F' := ([some (.ref 0), some (.int (nI e1)), some (.int i), some (.int (nI e2)), some (.int j), some (.int n), none, none], [.ref (27 + 2 * e1)], mjH I X)) (o := mjaald 15 62) rfl (fun _ => row_aald he1) ?_
  refine mjGo.run 4 (pc' := 69) (F' := ([some (.ref 0), some (.int (nI e1)), some (.int i), some (.int (nI e2)), some (.int j), some (.int n), some (.ref (27 + 2 * e1)), none], [.int (nI e2), .ref 26], mjH I X)) (fun _ => rfl) ?_
  refine mjGo.op (pc' := 70) (F' := ([some (.ref 0), some (.int (nI e1)), some (.int i), some (.int (nI e2)), some (.int j), some (.int n), some (.ref (27 + 2 * e1)), none], [.ref (27 + 2 * e2)], mjH I X)) (o := mjaald 15 70) rfl (fun _ => row_aald he2) ?_
  refine mjGo.run 2 (pc' := 74) (F' := ([some (.ref 0), some (.int (nI e1)), some (.int i), some (.int (nI e2)), some (.int j), some (.int n), some (.ref (27 + 2 * e1)), some (.ref (27 + 2 * e2))], [.ref (27 + 2 * e1)], mjH I X)) (fun _ => rfl) ?_
  refine mjGo.op (pc' := 77) (F' := ([some (.ref 0), some (.int (nI e1)), some (.int i), some (.int (nI e2)), some (.int j), some (.int n), some (.ref (27 + 2 * e1)), some (.ref (27 + 2 * e2))], [.int (I (27 + 2 * e1) 1)], mjH I X)) (o := mjgetI [6] 1 77) rfl (fun _ => row_getI he1) ?_
  refine mjGo.run 1 (pc' := 79) (F' := ([some (.ref 0), some (.int (nI e1)), some (.int i), some (.int (nI e2)), some (.int j), some (.int n), some (.ref (27 + 2 * e1)), some (.ref (27 + 2 * e2))], [.ref (27 + 2 * e2), .int (I (27 + 2 * e1) 1)], mjH I X)) (fun _ => rfl) ?_
  refine mjGo.op (pc' := 82) (F' := ([some (.ref 0), some (.int (nI e1)), some (.int i), some (.int (nI e2)), some (.int j), some (.int n), some (.ref (27 + 2 * e1)), some (.ref (27 + 2 * e2))], [.int (I (27 + 2 * e2) 1), .int (I (27 + 2 * e1) 1)], mjH I X)) (o := mjgetI [6] 1 82) rfl (fun _ => row_getI he2) ?_
  refine mjGo.run 1 (pc' := (bif decide ((I (27 + 2 * e1) 1) = (I (27 + 2 * e2) 1)) then 88 else 85)) (F' := ([some (.ref 0), some (.int (nI e1)), some (.int i), some (.int (nI e2)), some (.int j), some (.int n), some (.ref (27 + 2 * e1)), some (.ref (27 + 2 * e2))], [], mjH I X)) (fun _ => rfl) ?_
  refine mjGo.brT (hq) ?_
  show mjGo _ _ 88 _ _
  refine mjGo.run 3 (pc' := 93) (F' := ([some (.ref 0), some (.int (nI e1)), some (.int i), some (.int (nI e2)), some (.int j), some (.int n), some (.ref (27 + 2 * e1)), some (.ref (27 + 2 * e2))], [.int n, .int i, .ref (27 + 2 * e1)], mjH I X)) (fun _ => rfl) ?_
  refine mjGo.callL (o := some (.int 1)) (h' := mjH I X) (nx := 96) rfl rfl rfl ((row_N he1).1) ⟨_, row_lk he1, (by have q9 := c_xHasPs (d + 3) (I := I) (X := X) e1 i n he1; rw [xHasPs_y hz1 hs1 h1] at q9; exact q9)⟩ ?_
  show mjGo _ _ 96 ([some (.ref 0), some (.int (nI e1)), some (.int i), some (.int (nI e2)), some (.int j), some (.int n), some (.ref (27 + 2 * e1)), some (.ref (27 + 2 * e2))], [.int 1], mjH I X) _
  refine mjGo.run 4 (pc' := 105) (F' := ([some (.ref 0), some (.int (nI e1)), some (.int i), some (.int (nI e2)), some (.int j), some (.int n), some (.ref (27 + 2 * e1)), some (.ref (27 + 2 * e2))], [.int n, .int j, .ref (27 + 2 * e2)], mjH I X)) (fun _ => rfl) ?_
  refine mjGo.callL (o := some (.int 0)) (h' := mjH I X) (nx := 108) rfl rfl rfl ((row_N he2).1) ⟨_, row_lk he2, (by have q9 := c_xHasPs (d + 3) (I := I) (X := X) e2 j n he2; rw [xHasPs_n hz2 hs2 h2] at q9; exact q9)⟩ ?_
  show mjGo _ _ 108 ([some (.ref 0), some (.int (nI e1)), some (.int i), some (.int (nI e2)), some (.int j), some (.int n), some (.ref (27 + 2 * e1)), some (.ref (27 + 2 * e2))], [.int 0], mjH I X) _
  exact mjGo.ret 3 (fun _ => rfl) rfl
theorem c_xCpY (d : Nat) {e1 e2 sz1 sz2 i j n : Nat} {I : Nat → Nat → Int32} {X : MX} (he1 : e1 < 8) (he2 : e2 < 8) (hh1 : I 24 e1 = 2) (hh2 : I 24 e2 = 2) (hq : I (27 + 2 * e1) 1 = I (27 + 2 * e2) 1) (hz1 : I (27 + 2 * e1) 2 = nI sz1) (hs1 : sz1 ≤ 100) (hz2 : I (27 + 2 * e2) 2 = nI sz2) (hs2 : sz2 ≤ 100) (g1 : i + n ≤ sz1) (g2 : j + n ≤ sz2) (h1 : okC sz1 (nI i) (nI n)) (h2 : okC sz2 (nI j) (nI n)) : mjEv (d + 4) nyX11_copy [.ref 0, .int (nI e1), .int (nI i), .int (nI e2), .int (nI j), .int (nI n)] (mjH I X) (.inl (some (.int (nI n)))) (mjH (mjR I (28 + 2 * e2) (va_cpy (I (28 + 2 * e1)) (I (28 + 2 * e2)) i j n)) X) := by
  refine mjEv.of ?_
  show mjGo (d + 4) nyX11_copy 0 ([some (.ref 0), some (.int (nI e1)), some (.int (nI i)), some (.int (nI e2)), some (.int (nI j)), some (.int (nI n)), none, none], [], mjH I X) _
  refine mjGo.run 1 (pc' := 1) (F' := ([some (.ref 0), some (.int (nI e1)), some (.int (nI i)), some (.int (nI e2)), some (.int (nI j)), some (.int (nI n)), none, none], [.int (nI e1)], mjH I X)) (fun _ => rfl) ?_
  refine mjGo.call (n := 1) (j := 77) (nx := 4) (o := some (.int 1)) (h' := mjH I X) (fun _ => rfl) ((by have q9 := c_xShelf (d + 3) (nI e1) (mjH I X); rw [xShelf_1 he1] at q9; exact q9)) ?_
  show mjGo _ _ 4 ([some (.ref 0), some (.int (nI e1)), some (.int (nI i)), some (.int (nI e2)), some (.int (nI j)), some (.int (nI n)), none, none], [.int 1], mjH I X) _
  refine mjGo.run 2 (pc' := 8) (F' := ([some (.ref 0), some (.int (nI e1)), some (.int (nI i)), some (.int (nI e2)), some (.int (nI j)), some (.int (nI n)), none, none], [.int (nI e2)], mjH I X)) (fun _ => rfl) ?_
  refine mjGo.call (n := 1) (j := 77) (nx := 11) (o := some (.int 1)) (h' := mjH I X) (fun _ => rfl) ((by have q9 := c_xShelf (d + 3) (nI e2) (mjH I X); rw [xShelf_1 he2] at q9; exact q9)) ?_
  show mjGo _ _ 11 ([some (.ref 0), some (.int (nI e1)), some (.int (nI i)), some (.int (nI e2)), some (.int (nI j)), some (.int (nI n)), none, none], [.int 1], mjH I X) _
  refine mjGo.run 4 (pc' := 21) (F' := ([some (.ref 0), some (.int (nI e1)), some (.int (nI i)), some (.int (nI e2)), some (.int (nI j)), some (.int (nI n)), none, none], [.int (nI e1), .ref 24], mjH I X)) (fun _ => rfl) ?_
  refine mjGo.op (pc' := 22) (F' := ([some (.ref 0), some (.int (nI e1)), some (.int (nI i)), some (.int (nI e2)), some (.int (nI j)), some (.int (nI n)), none, none], [.int (I 24 e1)], mjH I X)) (o := mjiald 22) rfl (fun _ => mjald_n (n := 8) (by omega) (by decide) (rfl) (rfl)) ?_
  refine mjGo.run 0 (pc' := 22) (F' := ([some (.ref 0), some (.int (nI e1)), some (.int (nI i)), some (.int (nI e2)), some (.int (nI j)), some (.int (nI n)), none, none], [.int (I 24 e1)], mjH I X)) (fun _ => rfl) ?_
  rw [show (I 24 e1) = 2 from hh1]
  refine mjGo.run 4 (pc' := 30) (F' := ([some (.ref 0), some (.int (nI e1)), some (.int (nI i)), some (.int (nI e2)), some (.int (nI j)), some (.int (nI n)), none, none], [.int (nI e2), .ref 24], mjH I X)) (fun _ => rfl) ?_
  refine mjGo.op (pc' := 31) (F' := ([some (.ref 0), some (.int (nI e1)), some (.int (nI i)), some (.int (nI e2)), some (.int (nI j)), some (.int (nI n)), none, none], [.int (I 24 e2)], mjH I X)) (o := mjiald 31) rfl (fun _ => mjald_n (n := 8) (by omega) (by decide) (rfl) (rfl)) ?_
  refine mjGo.run 0 (pc' := 31) (F' := ([some (.ref 0), some (.int (nI e1)), some (.int (nI i)), some (.int (nI e2)), some (.int (nI j)), some (.int (nI n)), none, none], [.int (I 24 e2)], mjH I X)) (fun _ => rfl) ?_
  rw [show (I 24 e2) = 2 from hh2]
  refine mjGo.run 3 (pc' := 39) (F' := ([some (.ref 0), some (.int (nI e1)), some (.int (nI i)), some (.int (nI e2)), some (.int (nI j)), some (.int (nI n)), none, none], [.int (nI e1), .ref 0], mjH I X)) (fun _ => rfl) ?_
  refine mjGo.call (n := 2) (j := 197) (nx := 42) (o := some (.int 1)) (h' := mjH I X) (fun _ => rfl) (c_hr1 _ he1 hh1) ?_
  show mjGo _ _ 42 ([some (.ref 0), some (.int (nI e1)), some (.int (nI i)), some (.int (nI e2)), some (.int (nI j)), some (.int (nI n)), none, none], [.int 1], mjH I X) _
  refine mjGo.run 3 (pc' := 47) (F' := ([some (.ref 0), some (.int (nI e1)), some (.int (nI i)), some (.int (nI e2)), some (.int (nI j)), some (.int (nI n)), none, none], [.int (nI e2), .ref 0], mjH I X)) (fun _ => rfl) ?_
  refine mjGo.call (n := 2) (j := 197) (nx := 50) (o := some (.int 1)) (h' := mjH I X) (fun _ => rfl) (c_hr1 _ he2 hh2) ?_
  show mjGo _ _ 50 ([some (.ref 0), some (.int (nI e1)), some (.int (nI i)), some (.int (nI e2)), some (.int (nI j)), some (.int (nI n)), none, none], [.int 1], mjH I X) _
  refine mjGo.run 4 (pc' := 61) (F' := ([some (.ref 0), some (.int (nI e1)), some (.int (nI i)), some (.int (nI e2)), some (.int (nI j)), some (.int (nI n)), none, none], [.int (nI e1), .ref 26], mjH I X)) (fun _ => rfl) ?_
  refine mjGo.op (pc' := 62) (F' := ([some (.ref 0), some (.int (nI e1)), some (.int (nI i)), some (.int (nI e2)), some (.int (nI j)), some (.int (nI n)), none, none], [.ref (27 + 2 * e1)], mjH I X)) (o := mjaald 15 62) rfl (fun _ => row_aald he1) ?_
  refine mjGo.run 4 (pc' := 69) (F' := ([some (.ref 0), some (.int (nI e1)), some (.int (nI i)), some (.int (nI e2)), some (.int (nI j)), some (.int (nI n)), some (.ref (27 + 2 * e1)), none], [.int (nI e2), .ref 26], mjH I X)) (fun _ => rfl) ?_
  refine mjGo.op (pc' := 70) (F' := ([some (.ref 0), some (.int (nI e1)), some (.int (nI i)), some (.int (nI e2)), some (.int (nI j)), some (.int (nI n)), some (.ref (27 + 2 * e1)), none], [.ref (27 + 2 * e2)], mjH I X)) (o := mjaald 15 70) rfl (fun _ => row_aald he2) ?_
  refine mjGo.run 2 (pc' := 74) (F' := ([some (.ref 0), some (.int (nI e1)), some (.int (nI i)), some (.int (nI e2)), some (.int (nI j)), some (.int (nI n)), some (.ref (27 + 2 * e1)), some (.ref (27 + 2 * e2))], [.ref (27 + 2 * e1)], mjH I X)) (fun _ => rfl) ?_
  refine mjGo.op (pc' := 77) (F' := ([some (.ref 0), some (.int (nI e1)), some (.int (nI i)), some (.int (nI e2)), some (.int (nI j)), some (.int (nI n)), some (.ref (27 + 2 * e1)), some (.ref (27 + 2 * e2))], [.int (I (27 + 2 * e1) 1)], mjH I X)) (o := mjgetI [6] 1 77) rfl (fun _ => row_getI he1) ?_
  refine mjGo.run 1 (pc' := 79) (F' := ([some (.ref 0), some (.int (nI e1)), some (.int (nI i)), some (.int (nI e2)), some (.int (nI j)), some (.int (nI n)), some (.ref (27 + 2 * e1)), some (.ref (27 + 2 * e2))], [.ref (27 + 2 * e2), .int (I (27 + 2 * e1) 1)], mjH I X)) (fun _ => rfl) ?_
  refine mjGo.op (pc' := 82) (F' := ([some (.ref 0), some (.int (nI e1)), some (.int (nI i)), some (.int (nI e2)), some (.int (nI j)), some (.int (nI n)), some (.ref (27 + 2 * e1)), some (.ref (27 + 2 * e2))], [.int (I (27 + 2 * e2) 1), .int (I (27 + 2 * e1) 1)], mjH I X)) (o := mjgetI [6] 1 82) rfl (fun _ => row_getI he2) ?_
  refine mjGo.run 1 (pc' := (bif decide ((I (27 + 2 * e1) 1) = (I (27 + 2 * e2) 1)) then 88 else 85)) (F' := ([some (.ref 0), some (.int (nI e1)), some (.int (nI i)), some (.int (nI e2)), some (.int (nI j)), some (.int (nI n)), some (.ref (27 + 2 * e1)), some (.ref (27 + 2 * e2))], [], mjH I X)) (fun _ => rfl) ?_
  refine mjGo.brT (hq) ?_
  show mjGo _ _ 88 _ _
  refine mjGo.run 3 (pc' := 93) (F' := ([some (.ref 0), some (.int (nI e1)), some (.int (nI i)), some (.int (nI e2)), some (.int (nI j)), some (.int (nI n)), some (.ref (27 + 2 * e1)), some (.ref (27 + 2 * e2))], [.int (nI n), .int (nI i), .ref (27 + 2 * e1)], mjH I X)) (fun _ => rfl) ?_
  refine mjGo.callL (o := some (.int 1)) (h' := mjH I X) (nx := 96) rfl rfl rfl ((row_N he1).1) ⟨_, row_lk he1, (by have q9 := c_xHasPs (d + 3) (I := I) (X := X) e1 (nI i) (nI n) he1; rw [xHasPs_y hz1 hs1 h1] at q9; exact q9)⟩ ?_
  show mjGo _ _ 96 ([some (.ref 0), some (.int (nI e1)), some (.int (nI i)), some (.int (nI e2)), some (.int (nI j)), some (.int (nI n)), some (.ref (27 + 2 * e1)), some (.ref (27 + 2 * e2))], [.int 1], mjH I X) _
  refine mjGo.run 4 (pc' := 105) (F' := ([some (.ref 0), some (.int (nI e1)), some (.int (nI i)), some (.int (nI e2)), some (.int (nI j)), some (.int (nI n)), some (.ref (27 + 2 * e1)), some (.ref (27 + 2 * e2))], [.int (nI n), .int (nI j), .ref (27 + 2 * e2)], mjH I X)) (fun _ => rfl) ?_
  refine mjGo.callL (o := some (.int 1)) (h' := mjH I X) (nx := 108) rfl rfl rfl ((row_N he2).1) ⟨_, row_lk he2, (by have q9 := c_xHasPs (d + 3) (I := I) (X := X) e2 (nI j) (nI n) he2; rw [xHasPs_y hz2 hs2 h2] at q9; exact q9)⟩ ?_
  show mjGo _ _ 108 ([some (.ref 0), some (.int (nI e1)), some (.int (nI i)), some (.int (nI e2)), some (.int (nI j)), some (.int (nI n)), some (.ref (27 + 2 * e1)), some (.ref (27 + 2 * e2))], [.int 1], mjH I X) _
  refine mjGo.run 2 (pc' := 116) (F' := ([some (.ref 0), some (.int (nI e1)), some (.int (nI i)), some (.int (nI e2)), some (.int (nI j)), some (.int (nI n)), some (.ref (27 + 2 * e1)), some (.ref (27 + 2 * e2))], [.ref (27 + 2 * e1)], mjH I X)) (fun _ => rfl) ?_
  refine mjGo.op (pc' := 119) (F' := ([some (.ref 0), some (.int (nI e1)), some (.int (nI i)), some (.int (nI e2)), some (.int (nI j)), some (.int (nI n)), some (.ref (27 + 2 * e1)), some (.ref (27 + 2 * e2))], [.ref (28 + 2 * e1)], mjH I X)) (o := mjgetP [6] 0 119) rfl (fun _ => row_getP he1) ?_
  refine mjGo.run 2 (pc' := 122) (F' := ([some (.ref 0), some (.int (nI e1)), some (.int (nI i)), some (.int (nI e2)), some (.int (nI j)), some (.int (nI n)), some (.ref (27 + 2 * e1)), some (.ref (27 + 2 * e2))], [.ref (27 + 2 * e2), .int (nI i), .ref (28 + 2 * e1)], mjH I X)) (fun _ => rfl) ?_
  refine mjGo.op (pc' := 125) (F' := ([some (.ref 0), some (.int (nI e1)), some (.int (nI i)), some (.int (nI e2)), some (.int (nI j)), some (.int (nI n)), some (.ref (27 + 2 * e1)), some (.ref (27 + 2 * e2))], [.ref (28 + 2 * e2), .int (nI i), .ref (28 + 2 * e1)], mjH I X)) (o := mjgetP [6] 0 125) rfl (fun _ => row_getP he2) ?_
  refine mjGo.run 2 (pc' := 129) (F' := ([some (.ref 0), some (.int (nI e1)), some (.int (nI i)), some (.int (nI e2)), some (.int (nI j)), some (.int (nI n)), some (.ref (27 + 2 * e1)), some (.ref (27 + 2 * e2))], [.int (nI n), .int (nI j), .ref (28 + 2 * e2), .int (nI i), .ref (28 + 2 * e1)], mjH I X)) (fun _ => rfl) ?_
  refine mjGo.op (pc' := 132) (F' := ([some (.ref 0), some (.int (nI e1)), some (.int (nI i)), some (.int (nI e2)), some (.int (nI j)), some (.int (nI n)), some (.ref (27 + 2 * e1)), some (.ref (27 + 2 * e2))], [], mjH (mjR I (28 + 2 * e2) (va_cpy (I (28 + 2 * e1)) (I (28 + 2 * e2)) i j n)) X)) (o := mjcopy 132) rfl (fun _ => copy_op (row_arr he1).1 (row_arr he1).2 (row_arr he2).1 (row_arr he2).2 (by omega) (by omega) (by decide) (by decide) rfl) ?_
  exact mjGo.ret 2 (fun _ => rfl) rfl
