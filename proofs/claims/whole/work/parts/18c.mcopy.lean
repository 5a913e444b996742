/-! copy: the reference -/
theorem c_mCpA (d : Nat) {p i q j n : Int32} {I : Nat → Nat → Int32} {X : MX} (hp : mIn p 0 7 = 0) : mjEv (d + 4) nyX12_copy [.ref 43, .int p, .int i, .int q, .int j, .int n] (mjH I X) (.inl (some (.int (-1)))) (mjH I X) := by
  refine mjEv.of ?_
  show mjGo (d + 4) nyX12_copy 0 ([some (.ref 43), some (.int p), some (.int i), some (.int q), some (.int j), some (.int n), none], [], mjH I X) _
  refine mjGo.run 3 (pc' := 4) (F' := ([some (.ref 43), some (.int p), some (.int i), some (.int q), some (.int j), some (.int n), none], [.int 7, .int 0, .int p], mjH I X)) (fun _ => rfl) ?_
  refine mjGo.call (n := 3) (j := 132) (nx := 7) (o := some (.int 0)) (h' := mjH I X) (fun _ => rfl) ((by have q9 := c_mIn (d + 3) p 0 7 (mjH I X); rw [hp] at q9; exact q9)) ?_
  show mjGo _ _ 7 ([some (.ref 43), some (.int p), some (.int i), some (.int q), some (.int j), some (.int n), none], [.int 0], mjH I X) _
  exact mjGo.ret 3 (fun _ => rfl) rfl
theorem c_mCpB (d : Nat) {e1 : Nat} {i p j n : Int32} {I : Nat → Nat → Int32} {X : MX} (he1 : e1 < 8) (hp : mIn p 0 7 = 0) : mjEv (d + 4) nyX12_copy [.ref 43, .int (nI e1), .int i, .int p, .int j, .int n] (mjH I X) (.inl (some (.int (-1)))) (mjH I X) := by
  refine mjEv.of ?_
  show mjGo (d + 4) nyX12_copy 0 ([some (.ref 43), some (.int (nI e1)), some (.int i), some (.int p), some (.int j), some (.int n), none], [], mjH I X) _
  refine mjGo.run 3 (pc' := 4) (F' := ([some (.ref 43), some (.int (nI e1)), some (.int i), some (.int p), some (.int j), some (.int n), none], [.int 7, .int 0, .int (nI e1)], mjH I X)) (fun _ => rfl) ?_
  refine mjGo.call (n := 3) (j := 132) (nx := 7) (o := some (.int 1)) (h' := mjH I X) (fun _ => rfl) ((by have q9 := c_mIn (d + 3) (nI e1) 0 7 (mjH I X); rw [mShelf_1 he1] at q9; exact q9)) ?_
  show mjGo _ _ 7 ([some (.ref 43), some (.int (nI e1)), some (.int i), some (.int p), some (.int j), some (.int n), none], [.int 1], mjH I X) _
  refine mjGo.run 4 (pc' := 14) (F' := ([some (.ref 43), some (.int (nI e1)), some (.int i), some (.int p), some (.int j), some (.int n), none], [.int 7, .int 0, .int p], mjH I X)) (fun _ => rfl) ?_
  refine mjGo.call (n := 3) (j := 132) (nx := 17) (o := some (.int 0)) (h' := mjH I X) (fun _ => rfl) ((by have q9 := c_mIn (d + 3) p 0 7 (mjH I X); rw [hp] at q9; exact q9)) ?_
  show mjGo _ _ 17 ([some (.ref 43), some (.int (nI e1)), some (.int i), some (.int p), some (.int j), some (.int n), none], [.int 0], mjH I X) _
  exact mjGo.ret 3 (fun _ => rfl) rfl
theorem c_mCp00 (d : Nat) {e1 e2 : Nat} {i j n : Int32} {I : Nat → Nat → Int32} {X : MX}(he1 : e1 < 8) (he2 : e2 < 8) (hh1 : I 66 e1 = 0) (hh2 : I 66 e2 = 0) : mjEv (d + 4) nyX12_copy [.ref 43, .int (nI e1), .int i, .int (nI e2), .int j, .int n] (mjH I X) (.inl (some (.int (-11)))) (mjH I X) := by
  refine mjEv.of ?_
  show mjGo (d + 4) nyX12_copy 0 ([some (.ref 43), some (.int (nI e1)), some (.int i), some (.int (nI e2)), some (.int j), some (.int n), none], [], mjH I X) _
  refine mjGo.run 3 (pc' := 4) (F' := ([some (.ref 43), some (.int (nI e1)), some (.int i), some (.int (nI e2)), some (.int j), some (.int n), none], [.int 7, .int 0, .int (nI e1)], mjH I X)) (fun _ => rfl) ?_
  refine mjGo.call (n := 3) (j := 132) (nx := 7) (o := some (.int 1)) (h' := mjH I X) (fun _ => rfl) ((by have q9 := c_mIn (d + 3) (nI e1) 0 7 (mjH I X); rw [mShelf_1 he1] at q9; exact q9)) ?_
  show mjGo _ _ 7 ([some (.ref 43), some (.int (nI e1)), some (.int i), some (.int (nI e2)), some (.int j), some (.int n), none], [.int 1], mjH I X) _
  refine mjGo.run 4 (pc' := 14) (F' := ([some (.ref 43), some (.int (nI e1)), some (.int i), some (.int (nI e2)), some (.int j), some (.int n), none], [.int 7, .int 0, .int (nI e2)], mjH I X)) (fun _ => rfl) ?_
  refine mjGo.call (n := 3) (j := 132) (nx := 17) (o := some (.int 1)) (h' := mjH I X) (fun _ => rfl) ((by have q9 := c_mIn (d + 3) (nI e2) 0 7 (mjH I X); rw [mShelf_1 he2] at q9; exact q9)) ?_
  show mjGo _ _ 17 ([some (.ref 43), some (.int (nI e1)), some (.int i), some (.int (nI e2)), some (.int j), some (.int n), none], [.int 1], mjH I X) _
  refine mjGo.run 4 (pc' := 27) (F' := ([some (.ref 43), some (.int (nI e1)), some (.int i), some (.int (nI e2)), some (.int j), some (.int n), none], [.int (nI e1), .ref 66], mjH I X)) (fun _ => rfl) ?_
  refine mjGo.op (pc' := 28) (F' := ([some (.ref 43), some (.int (nI e1)), some (.int i), some (.int (nI e2)), some (.int j), some (.int n), none], [.int (I 66 e1)], mjH I X)) (o := mjiald 28) rfl (fun _ => mjald_n (n := 8) (by omega) (by decide) (rfl) (rfl)) ?_
  refine mjGo.run 0 (pc' := 28) (F' := ([some (.ref 43), some (.int (nI e1)), some (.int i), some (.int (nI e2)), some (.int j), some (.int n), none], [.int (I 66 e1)], mjH I X)) (fun _ => rfl) ?_
  rw [show (I 66 e1) = 0 from hh1]
  exact mjGo.ret 3 (fun _ => rfl) rfl
theorem c_mCp01 (d : Nat) {e1 e2 : Nat} {i j n : Int32} {I : Nat → Nat → Int32} {X : MX}(he1 : e1 < 8) (he2 : e2 < 8) (hh1 : I 66 e1 = 0) (hh2 : I 66 e2 = 1) : mjEv (d + 4) nyX12_copy [.ref 43, .int (nI e1), .int i, .int (nI e2), .int j, .int n] (mjH I X) (.inl (some (.int (-11)))) (mjH I X) := by
  refine mjEv.of ?_
  show mjGo (d + 4) nyX12_copy 0 ([some (.ref 43), some (.int (nI e1)), some (.int i), some (.int (nI e2)), some (.int j), some (.int n), none], [], mjH I X) _
  refine mjGo.run 3 (pc' := 4) (F' := ([some (.ref 43), some (.int (nI e1)), some (.int i), some (.int (nI e2)), some (.int j), some (.int n), none], [.int 7, .int 0, .int (nI e1)], mjH I X)) (fun _ => rfl) ?_
  refine mjGo.call (n := 3) (j := 132) (nx := 7) (o := some (.int 1)) (h' := mjH I X) (fun _ => rfl) ((by have q9 := c_mIn (d + 3) (nI e1) 0 7 (mjH I X); rw [mShelf_1 he1] at q9; exact q9)) ?_
  show mjGo _ _ 7 ([some (.ref 43), some (.int (nI e1)), some (.int i), some (.int (nI e2)), some (.int j), some (.int n), none], [.int 1], mjH I X) _
  refine mjGo.run 4 (pc' := 14) (F' := ([some (.ref 43), some (.int (nI e1)), some (.int i), some (.int (nI e2)), some (.int j), some (.int n), none], [.int 7, .int 0, .int (nI e2)], mjH I X)) (fun _ => rfl) ?_
  refine mjGo.call (n := 3) (j := 132) (nx := 17) (o := some (.int 1)) (h' := mjH I X) (fun _ => rfl) ((by have q9 := c_mIn (d + 3) (nI e2) 0 7 (mjH I X); rw [mShelf_1 he2] at q9; exact q9)) ?_
  show mjGo _ _ 17 ([some (.ref 43), some (.int (nI e1)), some (.int i), some (.int (nI e2)), some (.int j), some (.int n), none], [.int 1], mjH I X) _
  refine mjGo.run 4 (pc' := 27) (F' := ([some (.ref 43), some (.int (nI e1)), some (.int i), some (.int (nI e2)), some (.int j), some (.int n), none], [.int (nI e1), .ref 66], mjH I X)) (fun _ => rfl) ?_
  refine mjGo.op (pc' := 28) (F' := ([some (.ref 43), some (.int (nI e1)), some (.int i), some (.int (nI e2)), some (.int j), some (.int n), none], [.int (I 66 e1)], mjH I X)) (o := mjiald 28) rfl (fun _ => mjald_n (n := 8) (by omega) (by decide) (rfl) (rfl)) ?_
  refine mjGo.run 0 (pc' := 28) (F' := ([some (.ref 43), some (.int (nI e1)), some (.int i), some (.int (nI e2)), some (.int j), some (.int n), none], [.int (I 66 e1)], mjH I X)) (fun _ => rfl) ?_
  rw [show (I 66 e1) = 0 from hh1]
  exact mjGo.ret 3 (fun _ => rfl) rfl
theorem c_mCp02 (d : Nat) {e1 e2 : Nat} {i j n : Int32} {I : Nat → Nat → Int32} {X : MX}(he1 : e1 < 8) (he2 : e2 < 8) (hh1 : I 66 e1 = 0) (hh2 : I 66 e2 = 2) : mjEv (d + 4) nyX12_copy [.ref 43, .int (nI e1), .int i, .int (nI e2), .int j, .int n] (mjH I X) (.inl (some (.int (-11)))) (mjH I X) := by
  refine mjEv.of ?_
  show mjGo (d + 4) nyX12_copy 0 ([some (.ref 43), some (.int (nI e1)), some (.int i), some (.int (nI e2)), some (.int j), some (.int n), none], [], mjH I X) _
  refine mjGo.run 3 (pc' := 4) (F' := ([some (.ref 43), some (.int (nI e1)), some (.int i), some (.int (nI e2)), some (.int j), some (.int n), none], [.int 7, .int 0, .int (nI e1)], mjH I X)) (fun _ => rfl) ?_
  refine mjGo.call (n := 3) (j := 132) (nx := 7) (o := some (.int 1)) (h' := mjH I X) (fun _ => rfl) ((by have q9 := c_mIn (d + 3) (nI e1) 0 7 (mjH I X); rw [mShelf_1 he1] at q9; exact q9)) ?_
  show mjGo _ _ 7 ([some (.ref 43), some (.int (nI e1)), some (.int i), some (.int (nI e2)), some (.int j), some (.int n), none], [.int 1], mjH I X) _
  refine mjGo.run 4 (pc' := 14) (F' := ([some (.ref 43), some (.int (nI e1)), some (.int i), some (.int (nI e2)), some (.int j), some (.int n), none], [.int 7, .int 0, .int (nI e2)], mjH I X)) (fun _ => rfl) ?_
  refine mjGo.call (n := 3) (j := 132) (nx := 17) (o := some (.int 1)) (h' := mjH I X) (fun _ => rfl) ((by have q9 := c_mIn (d + 3) (nI e2) 0 7 (mjH I X); rw [mShelf_1 he2] at q9; exact q9)) ?_
  show mjGo _ _ 17 ([some (.ref 43), some (.int (nI e1)), some (.int i), some (.int (nI e2)), some (.int j), some (.int n), none], [.int 1], mjH I X) _
  refine mjGo.run 4 (pc' := 27) (F' := ([some (.ref 43), some (.int (nI e1)), some (.int i), some (.int (nI e2)), some (.int j), some (.int n), none], [.int (nI e1), .ref 66], mjH I X)) (fun _ => rfl) ?_
  refine mjGo.op (pc' := 28) (F' := ([some (.ref 43), some (.int (nI e1)), some (.int i), some (.int (nI e2)), some (.int j), some (.int n), none], [.int (I 66 e1)], mjH I X)) (o := mjiald 28) rfl (fun _ => mjald_n (n := 8) (by omega) (by decide) (rfl) (rfl)) ?_
  refine mjGo.run 0 (pc' := 28) (F' := ([some (.ref 43), some (.int (nI e1)), some (.int i), some (.int (nI e2)), some (.int j), some (.int n), none], [.int (I 66 e1)], mjH I X)) (fun _ => rfl) ?_
  rw [show (I 66 e1) = 0 from hh1]
  exact mjGo.ret 3 (fun _ => rfl) rfl
theorem c_mCp10 (d : Nat) {e1 e2 : Nat} {i j n : Int32} {I : Nat → Nat → Int32} {X : MX}(he1 : e1 < 8) (he2 : e2 < 8) (hh1 : I 66 e1 = 1) (hh2 : I 66 e2 = 0) : mjEv (d + 4) nyX12_copy [.ref 43, .int (nI e1), .int i, .int (nI e2), .int j, .int n] (mjH I X) (.inl (some (.int (-11)))) (mjH I X) := by
  refine mjEv.of ?_
  show mjGo (d + 4) nyX12_copy 0 ([some (.ref 43), some (.int (nI e1)), some (.int i), some (.int (nI e2)), some (.int j), some (.int n), none], [], mjH I X) _
  refine mjGo.run 3 (pc' := 4) (F' := ([some (.ref 43), some (.int (nI e1)), some (.int i), some (.int (nI e2)), some (.int j), some (.int n), none], [.int 7, .int 0, .int (nI e1)], mjH I X)) (fun _ => rfl) ?_
  refine mjGo.call (n := 3) (j := 132) (nx := 7) (o := some (.int 1)) (h' := mjH I X) (fun _ => rfl) ((by have q9 := c_mIn (d + 3) (nI e1) 0 7 (mjH I X); rw [mShelf_1 he1] at q9; exact q9)) ?_
  show mjGo _ _ 7 ([some (.ref 43), some (.int (nI e1)), some (.int i), some (.int (nI e2)), some (.int j), some (.int n), none], [.int 1], mjH I X) _
  refine mjGo.run 4 (pc' := 14) (F' := ([some (.ref 43), some (.int (nI e1)), some (.int i), some (.int (nI e2)), some (.int j), some (.int n), none], [.int 7, .int 0, .int (nI e2)], mjH I X)) (fun _ => rfl) ?_
  refine mjGo.call (n := 3) (j := 132) (nx := 17) (o := some (.int 1)) (h' := mjH I X) (fun _ => rfl) ((by have q9 := c_mIn (d + 3) (nI e2) 0 7 (mjH I X); rw [mShelf_1 he2] at q9; exact q9)) ?_
  show mjGo _ _ 17 ([some (.ref 43), some (.int (nI e1)), some (.int i), some (.int (nI e2)), some (.int j), some (.int n), none], [.int 1], mjH I X) _
  refine mjGo.run 4 (pc' := 27) (F' := ([some (.ref 43), some (.int (nI e1)), some (.int i), some (.int (nI e2)), some (.int j), some (.int n), none], [.int (nI e1), .ref 66], mjH I X)) (fun _ => rfl) ?_
  refine mjGo.op (pc' := 28) (F' := ([some (.ref 43), some (.int (nI e1)), some (.int i), some (.int (nI e2)), some (.int j), some (.int n), none], [.int (I 66 e1)], mjH I X)) (o := mjiald 28) rfl (fun _ => mjald_n (n := 8) (by omega) (by decide) (rfl) (rfl)) ?_
  refine mjGo.run 0 (pc' := 28) (F' := ([some (.ref 43), some (.int (nI e1)), some (.int i), some (.int (nI e2)), some (.int j), some (.int n), none], [.int (I 66 e1)], mjH I X)) (fun _ => rfl) ?_
  rw [show (I 66 e1) = 1 from hh1]
  refine mjGo.run 4 (pc' := 36) (F' := ([some (.ref 43), some (.int (nI e1)), some (.int i), some (.int (nI e2)), some (.int j), some (.int n), none], [.int (nI e2), .ref 66], mjH I X)) (fun _ => rfl) ?_
  refine mjGo.op (pc' := 37) (F' := ([some (.ref 43), some (.int (nI e1)), some (.int i), some (.int (nI e2)), some (.int j), some (.int n), none], [.int (I 66 e2)], mjH I X)) (o := mjiald 37) rfl (fun _ => mjald_n (n := 8) (by omega) (by decide) (rfl) (rfl)) ?_
  refine mjGo.run 0 (pc' := 37) (F' := ([some (.ref 43), some (.int (nI e1)), some (.int i), some (.int (nI e2)), some (.int j), some (.int n), none], [.int (I 66 e2)], mjH I X)) (fun _ => rfl) ?_
  rw [show (I 66 e2) = 0 from hh2]
  exact mjGo.ret 3 (fun _ => rfl) rfl
theorem c_mCp11 (d : Nat) {e1 e2 : Nat} {i j n : Int32} {I : Nat → Nat → Int32} {X : MX}(he1 : e1 < 8) (he2 : e2 < 8) (hh1 : I 66 e1 = 1) (hh2 : I 66 e2 = 1) : mjEv (d + 4) nyX12_copy [.ref 43, .int (nI e1), .int i, .int (nI e2), .int j, .int n] (mjH I X) (.inl (some (.int (-12)))) (mjH I X) := by
  refine mjEv.of ?_
  show mjGo (d + 4) nyX12_copy 0 ([some (.ref 43), some (.int (nI e1)), some (.int i), some (.int (nI e2)), some (.int j), some (.int n), none], [], mjH I X) _
  refine mjGo.run 3 (pc' := 4) (F' := ([some (.ref 43), some (.int (nI e1)), some (.int i), some (.int (nI e2)), some (.int j), some (.int n), none], [.int 7, .int 0, .int (nI e1)], mjH I X)) (fun _ => rfl) ?_
  refine mjGo.call (n := 3) (j := 132) (nx := 7) (o := some (.int 1)) (h' := mjH I X) (fun _ => rfl) ((by have q9 := c_mIn (d + 3) (nI e1) 0 7 (mjH I X); rw [mShelf_1 he1] at q9; exact q9)) ?_
  show mjGo _ _ 7 ([some (.ref 43), some (.int (nI e1)), some (.int i), some (.int (nI e2)), some (.int j), some (.int n), none], [.int 1], mjH I X) _
  refine mjGo.run 4 (pc' := 14) (F' := ([some (.ref 43), some (.int (nI e1)), some (.int i), some (.int (nI e2)), some (.int j), some (.int n), none], [.int 7, .int 0, .int (nI e2)], mjH I X)) (fun _ => rfl) ?_
  refine mjGo.call (n := 3) (j := 132) (nx := 17) (o := some (.int 1)) (h' := mjH I X) (fun _ => rfl) ((by have q9 := c_mIn (d + 3) (nI e2) 0 7 (mjH I X); rw [mShelf_1 he2] at q9; exact q9)) ?_
  show mjGo _ _ 17 ([some (.ref 43), some (.int (nI e1)), some (.int i), some (.int (nI e2)), some (.int j), some (.int n), none], [.int 1], mjH I X) _
  refine mjGo.run 4 (pc' := 27) (F' := ([some (.ref 43), some (.int (nI e1)), some (.int i), some (.int (nI e2)), some (.int j), some (.int n), none], [.int (nI e1), .ref 66], mjH I X)) (fun _ => rfl) ?_
  refine mjGo.op (pc' := 28) (F' := ([some (.ref 43), some (.int (nI e1)), some (.int i), some (.int (nI e2)), some (.int j), some (.int n), none], [.int (I 66 e1)], mjH I X)) (o := mjiald 28) rfl (fun _ => mjald_n (n := 8) (by omega) (by decide) (rfl) (rfl)) ?_
  refine mjGo.run 0 (pc' := 28) (F' := ([some (.ref 43), some (.int (nI e1)), some (.int i), some (.int (nI e2)), some (.int j), some (.int n), none], [.int (I 66 e1)], mjH I X)) (fun _ => rfl) ?_
  rw [show (I 66 e1) = 1 from hh1]
  refine mjGo.run 4 (pc' := 36) (F' := ([some (.ref 43), some (.int (nI e1)), some (.int i), some (.int (nI e2)), some (.int j), some (.int n), none], [.int (nI e2), .ref 66], mjH I X)) (fun _ => rfl) ?_
  refine mjGo.op (pc' := 37) (F' := ([some (.ref 43), some (.int (nI e1)), some (.int i), some (.int (nI e2)), some (.int j), some (.int n), none], [.int (I 66 e2)], mjH I X)) (o := mjiald 37) rfl (fun _ => mjald_n (n := 8) (by omega) (by decide) (rfl) (rfl)) ?_
  refine mjGo.run 0 (pc' := 37) (F' := ([some (.ref 43), some (.int (nI e1)), some (.int i), some (.int (nI e2)), some (.int j), some (.int n), none], [.int (I 66 e2)], mjH I X)) (fun _ => rfl) ?_
  rw [show (I 66 e2) = 1 from hh2]
  refine mjGo.run 4 (pc' := 48) (F' := ([some (.ref 43), some (.int (nI e1)), some (.int i), some (.int (nI e2)), some (.int j), some (.int n), none], [.int (nI e1), .ref 66], mjH I X)) (fun _ => rfl) ?_
  refine mjGo.op (pc' := 49) (F' := ([some (.ref 43), some (.int (nI e1)), some (.int i), some (.int (nI e2)), some (.int j), some (.int n), none], [.int (I 66 e1)], mjH I X)) (o := mjiald 49) rfl (fun _ => mjald_n (n := 8) (by omega) (by decide) (rfl) (rfl)) ?_
  refine mjGo.run 0 (pc' := 49) (F' := ([some (.ref 43), some (.int (nI e1)), some (.int i), some (.int (nI e2)), some (.int j), some (.int n), none], [.int (I 66 e1)], mjH I X)) (fun _ => rfl) ?_
  rw [show (I 66 e1) = 1 from hh1]
  exact mjGo.ret 4 (fun _ => rfl) rfl
theorem c_mCp12 (d : Nat) {e1 e2 : Nat} {i j n : Int32} {I : Nat → Nat → Int32} {X : MX}(he1 : e1 < 8) (he2 : e2 < 8) (hh1 : I 66 e1 = 1) (hh2 : I 66 e2 = 2) : mjEv (d + 4) nyX12_copy [.ref 43, .int (nI e1), .int i, .int (nI e2), .int j, .int n] (mjH I X) (.inl (some (.int (-12)))) (mjH I X) := by
  refine mjEv.of ?_
  show mjGo (d + 4) nyX12_copy 0 ([some (.ref 43), some (.int (nI e1)), some (.int i), some (.int (nI e2)), some (.int j), some (.int n), none], [], mjH I X) _
  refine mjGo.run 3 (pc' := 4) (F' := ([some (.ref 43), some (.int (nI e1)), some (.int i), some (.int (nI e2)), some (.int j), some (.int n), none], [.int 7, .int 0, .int (nI e1)], mjH I X)) (fun _ => rfl) ?_
  refine mjGo.call (n := 3) (j := 132) (nx := 7) (o := some (.int 1)) (h' := mjH I X) (fun _ => rfl) ((by have q9 := c_mIn (d + 3) (nI e1) 0 7 (mjH I X); rw [mShelf_1 he1] at q9; exact q9)) ?_
  show mjGo _ _ 7 ([some (.ref 43), some (.int (nI e1)), some (.int i), some (.int (nI e2)), some (.int j), some (.int n), none], [.int 1], mjH I X) _
  refine mjGo.run 4 (pc' := 14) (F' := ([some (.ref 43), some (.int (nI e1)), some (.int i), some (.int (nI e2)), some (.int j), some (.int n), none], [.int 7, .int 0, .int (nI e2)], mjH I X)) (fun _ => rfl) ?_
  refine mjGo.call (n := 3) (j := 132) (nx := 17) (o := some (.int 1)) (h' := mjH I X) (fun _ => rfl) ((by have q9 := c_mIn (d + 3) (nI e2) 0 7 (mjH I X); rw [mShelf_1 he2] at q9; exact q9)) ?_
  show mjGo _ _ 17 ([some (.ref 43), some (.int (nI e1)), some (.int i), some (.int (nI e2)), some (.int j), some (.int n), none], [.int 1], mjH I X) _
  refine mjGo.run 4 (pc' := 27) (F' := ([some (.ref 43), some (.int (nI e1)), some (.int i), some (.int (nI e2)), some (.int j), some (.int n), none], [.int (nI e1), .ref 66], mjH I X)) (fun _ => rfl) ?_
  refine mjGo.op (pc' := 28) (F' := ([some (.ref 43), some (.int (nI e1)), some (.int i), some (.int (nI e2)), some (.int j), some (.int n), none], [.int (I 66 e1)], mjH I X)) (o := mjiald 28) rfl (fun _ => mjald_n (n := 8) (by omega) (by decide) (rfl) (rfl)) ?_
  refine mjGo.run 0 (pc' := 28) (F' := ([some (.ref 43), some (.int (nI e1)), some (.int i), some (.int (nI e2)), some (.int j), some (.int n), none], [.int (I 66 e1)], mjH I X)) (fun _ => rfl) ?_
  rw [show (I 66 e1) = 1 from hh1]
  refine mjGo.run 4 (pc' := 36) (F' := ([some (.ref 43), some (.int (nI e1)), some (.int i), some (.int (nI e2)), some (.int j), some (.int n), none], [.int (nI e2), .ref 66], mjH I X)) (fun _ => rfl) ?_
  refine mjGo.op (pc' := 37) (F' := ([some (.ref 43), some (.int (nI e1)), some (.int i), some (.int (nI e2)), some (.int j), some (.int n), none], [.int (I 66 e2)], mjH I X)) (o := mjiald 37) rfl (fun _ => mjald_n (n := 8) (by omega) (by decide) (rfl) (rfl)) ?_
  refine mjGo.run 0 (pc' := 37) (F' := ([some (.ref 43), some (.int (nI e1)), some (.int i), some (.int (nI e2)), some (.int j), some (.int n), none], [.int (I 66 e2)], mjH I X)) (fun _ => rfl) ?_
  rw [show (I 66 e2) = 2 from hh2]
  refine mjGo.run 4 (pc' := 48) (F' := ([some (.ref 43), some (.int (nI e1)), some (.int i), some (.int (nI e2)), some (.int j), some (.int n), none], [.int (nI e1), .ref 66], mjH I X)) (fun _ => rfl) ?_
  refine mjGo.op (pc' := 49) (F' := ([some (.ref 43), some (.int (nI e1)), some (.int i), some (.int (nI e2)), some (.int j), some (.int n), none], [.int (I 66 e1)], mjH I X)) (o := mjiald 49) rfl (fun _ => mjald_n (n := 8) (by omega) (by decide) (rfl) (rfl)) ?_
  refine mjGo.run 0 (pc' := 49) (F' := ([some (.ref 43), some (.int (nI e1)), some (.int i), some (.int (nI e2)), some (.int j), some (.int n), none], [.int (I 66 e1)], mjH I X)) (fun _ => rfl) ?_
  rw [show (I 66 e1) = 1 from hh1]
  exact mjGo.ret 4 (fun _ => rfl) rfl
theorem c_mCp20 (d : Nat) {e1 e2 : Nat} {i j n : Int32} {I : Nat → Nat → Int32} {X : MX}(he1 : e1 < 8) (he2 : e2 < 8) (hh1 : I 66 e1 = 2) (hh2 : I 66 e2 = 0) : mjEv (d + 4) nyX12_copy [.ref 43, .int (nI e1), .int i, .int (nI e2), .int j, .int n] (mjH I X) (.inl (some (.int (-11)))) (mjH I X) := by
  refine mjEv.of ?_
  show mjGo (d + 4) nyX12_copy 0 ([some (.ref 43), some (.int (nI e1)), some (.int i), some (.int (nI e2)), some (.int j), some (.int n), none], [], mjH I X) _
  refine mjGo.run 3 (pc' := 4) (F' := ([some (.ref 43), some (.int (nI e1)), some (.int i), some (.int (nI e2)), some (.int j), some (.int n), none], [.int 7, .int 0, .int (nI e1)], mjH I X)) (fun _ => rfl) ?_
  refine mjGo.call (n := 3) (j := 132) (nx := 7) (o := some (.int 1)) (h' := mjH I X) (fun _ => rfl) ((by have q9 := c_mIn (d + 3) (nI e1) 0 7 (mjH I X); rw [mShelf_1 he1] at q9; exact q9)) ?_
  show mjGo _ _ 7 ([some (.ref 43), some (.int (nI e1)), some (.int i), some (.int (nI e2)), some (.int j), some (.int n), none], [.int 1], mjH I X) _
  refine mjGo.run 4 (pc' := 14) (F' := ([some (.ref 43), some (.int (nI e1)), some (.int i), some (.int (nI e2)), some (.int j), some (.int n), none], [.int 7, .int 0, .int (nI e2)], mjH I X)) (fun _ => rfl) ?_
  refine mjGo.call (n := 3) (j := 132) (nx := 17) (o := some (.int 1)) (h' := mjH I X) (fun _ => rfl) ((by have q9 := c_mIn (d + 3) (nI e2) 0 7 (mjH I X); rw [mShelf_1 he2] at q9; exact q9)) ?_
  show mjGo _ _ 17 ([some (.ref 43), some (.int (nI e1)), some (.int i), some (.int (nI e2)), some (.int j), some (.int n), none], [.int 1], mjH I X) _
  refine mjGo.run 4 (pc' := 27) (F' := ([some (.ref 43), some (.int (nI e1)), some (.int i), some (.int (nI e2)), some (.int j), some (.int n), none], [.int (nI e1), .ref 66], mjH I X)) (fun _ => rfl) ?_
  refine mjGo.op (pc' := 28) (F' := ([some (.ref 43), some (.int (nI e1)), some (.int i), some (.int (nI e2)), some (.int j), some (.int n), none], [.int (I 66 e1)], mjH I X)) (o := mjiald 28) rfl (fun _ => mjald_n (n := 8) (by omega) (by decide) (rfl) (rfl)) ?_
  refine mjGo.run 0 (pc' := 28) (F' := ([some (.ref 43), some (.int (nI e1)), some (.int i), some (.int (nI e2)), some (.int j), some (.int n), none], [.int (I 66 e1)], mjH I X)) (fun _ => rfl) ?_
  rw [show (I 66 e1) = 2 from hh1]
  refine mjGo.run 4 (pc' := 36) (F' := ([some (.ref 43), some (.int (nI e1)), some (.int i), some (.int (nI e2)), some (.int j), some (.int n), none], [.int (nI e2), .ref 66], mjH I X)) (fun _ => rfl) ?_
  refine mjGo.op (pc' := 37) (F' := ([some (.ref 43), some (.int (nI e1)), some (.int i), some (.int (nI e2)), some (.int j), some (.int n), none], [.int (I 66 e2)], mjH I X)) (o := mjiald 37) rfl (fun _ => mjald_n (n := 8) (by omega) (by decide) (rfl) (rfl)) ?_
  refine mjGo.run 0 (pc' := 37) (F' := ([some (.ref 43), some (.int (nI e1)), some (.int i), some (.int (nI e2)), some (.int j), some (.int n), none], [.int (I 66 e2)], mjH I X)) (fun _ => rfl) ?_
  rw [show (I 66 e2) = 0 from hh2]
  exact mjGo.ret 3 (fun _ => rfl) rfl
theorem c_mCp21 (d : Nat) {e1 e2 : Nat} {i j n : Int32} {I : Nat → Nat → Int32} {X : MX}(he1 : e1 < 8) (he2 : e2 < 8) (hh1 : I 66 e1 = 2) (hh2 : I 66 e2 = 1) : mjEv (d + 4) nyX12_copy [.ref 43, .int (nI e1), .int i, .int (nI e2), .int j, .int n] (mjH I X) (.inl (some (.int (-12)))) (mjH I X) := by
  refine mjEv.of ?_
  show mjGo (d + 4) nyX12_copy 0 ([some (.ref 43), some (.int (nI e1)), some (.int i), some (.int (nI e2)), some (.int j), some (.int n), none], [], mjH I X) _
  refine mjGo.run 3 (pc' := 4) (F' := ([some (.ref 43), some (.int (nI e1)), some (.int i), some (.int (nI e2)), some (.int j), some (.int n), none], [.int 7, .int 0, .int (nI e1)], mjH I X)) (fun _ => rfl) ?_
  refine mjGo.call (n := 3) (j := 132) (nx := 7) (o := some (.int 1)) (h' := mjH I X) (fun _ => rfl) ((by have q9 := c_mIn (d + 3) (nI e1) 0 7 (mjH I X); rw [mShelf_1 he1] at q9; exact q9)) ?_
  show mjGo _ _ 7 ([some (.ref 43), some (.int (nI e1)), some (.int i), some (.int (nI e2)), some (.int j), some (.int n), none], [.int 1], mjH I X) _
  refine mjGo.run 4 (pc' := 14) (F' := ([some (.ref 43), some (.int (nI e1)), some (.int i), some (.int (nI e2)), some (.int j), some (.int n), none], [.int 7, .int 0, .int (nI e2)], mjH I X)) (fun _ => rfl) ?_
  refine mjGo.call (n := 3) (j := 132) (nx := 17) (o := some (.int 1)) (h' := mjH I X) (fun _ => rfl) ((by have q9 := c_mIn (d + 3) (nI e2) 0 7 (mjH I X); rw [mShelf_1 he2] at q9; exact q9)) ?_
  show mjGo _ _ 17 ([some (.ref 43), some (.int (nI e1)), some (.int i), some (.int (nI e2)), some (.int j), some (.int n), none], [.int 1], mjH I X) _
  refine mjGo.run 4 (pc' := 27) (F' := ([some (.ref 43), some (.int (nI e1)), some (.int i), some (.int (nI e2)), some (.int j), some (.int n), none], [.int (nI e1), .ref 66], mjH I X)) (fun _ => rfl) ?_
  refine mjGo.op (pc' := 28) (F' := ([some (.ref 43), some (.int (nI e1)), some (.int i), some (.int (nI e2)), some (.int j), some (.int n), none], [.int (I 66 e1)], mjH I X)) (o := mjiald 28) rfl (fun _ => mjald_n (n := 8) (by omega) (by decide) (rfl) (rfl)) ?_
  refine mjGo.run 0 (pc' := 28) (F' := ([some (.ref 43), some (.int (nI e1)), some (.int i), some (.int (nI e2)), some (.int j), some (.int n), none], [.int (I 66 e1)], mjH I X)) (fun _ => rfl) ?_
  rw [show (I 66 e1) = 2 from hh1]
  refine mjGo.run 4 (pc' := 36) (F' := ([some (.ref 43), some (.int (nI e1)), some (.int i), some (.int (nI e2)), some (.int j), some (.int n), none], [.int (nI e2), .ref 66], mjH I X)) (fun _ => rfl) ?_
  refine mjGo.op (pc' := 37) (F' := ([some (.ref 43), some (.int (nI e1)), some (.int i), some (.int (nI e2)), some (.int j), some (.int n), none], [.int (I 66 e2)], mjH I X)) (o := mjiald 37) rfl (fun _ => mjald_n (n := 8) (by omega) (by decide) (rfl) (rfl)) ?_
  refine mjGo.run 0 (pc' := 37) (F' := ([some (.ref 43), some (.int (nI e1)), some (.int i), some (.int (nI e2)), some (.int j), some (.int n), none], [.int (I 66 e2)], mjH I X)) (fun _ => rfl) ?_
  rw [show (I 66 e2) = 1 from hh2]
  refine mjGo.run 4 (pc' := 48) (F' := ([some (.ref 43), some (.int (nI e1)), some (.int i), some (.int (nI e2)), some (.int j), some (.int n), none], [.int (nI e1), .ref 66], mjH I X)) (fun _ => rfl) ?_
  refine mjGo.op (pc' := 49) (F' := ([some (.ref 43), some (.int (nI e1)), some (.int i), some (.int (nI e2)), some (.int j), some (.int n), none], [.int (I 66 e1)], mjH I X)) (o := mjiald 49) rfl (fun _ => mjald_n (n := 8) (by omega) (by decide) (rfl) (rfl)) ?_
  refine mjGo.run 0 (pc' := 49) (F' := ([some (.ref 43), some (.int (nI e1)), some (.int i), some (.int (nI e2)), some (.int j), some (.int n), none], [.int (I 66 e1)], mjH I X)) (fun _ => rfl) ?_
  rw [show (I 66 e1) = 2 from hh1]
  refine mjGo.run 5 (pc' := 58) (F' := ([some (.ref 43), some (.int (nI e1)), some (.int i), some (.int (nI e2)), some (.int j), some (.int n), none], [.int (nI e2), .ref 66], mjH I X)) (fun _ => rfl) ?_
  refine mjGo.op (pc' := 59) (F' := ([some (.ref 43), some (.int (nI e1)), some (.int i), some (.int (nI e2)), some (.int j), some (.int n), none], [.int (I 66 e2)], mjH I X)) (o := mjiald 59) rfl (fun _ => mjald_n (n := 8) (by omega) (by decide) (rfl) (rfl)) ?_
  refine mjGo.run 0 (pc' := 59) (F' := ([some (.ref 43), some (.int (nI e1)), some (.int i), some (.int (nI e2)), some (.int j), some (.int n), none], [.int (I 66 e2)], mjH I X)) (fun _ => rfl) ?_
  rw [show (I 66 e2) = 1 from hh2]
  exact mjGo.ret 4 (fun _ => rfl) rfl
theorem c_mCpS (d : Nat) {e1 e2 : Nat} {i j n : Int32} {I : Nat → Nat → Int32} {X : MX}(he1 : e1 < 8) (he2 : e2 < 8) (hh1 : I 66 e1 = 2) (hh2 : I 66 e2 = 2) (hq : ¬ I 67 e1 = I 67 e2) : mjEv (d + 4) nyX12_copy [.ref 43, .int (nI e1), .int i, .int (nI e2), .int j, .int n] (mjH I X) (.inl (some (.int (-12)))) (mjH I X) := by
  refine mjEv.of ?_
  show mjGo (d + 4) nyX12_copy 0 ([some (.ref 43), some (.int (nI e1)), some (.int i), some (.int (nI e2)), some (.int j), some (.int n), none], [], mjH I X) _
  refine mjGo.run 3 (pc' := 4) (F' := ([some (.ref 43), some (.int (nI e1)), some (.int i), some (.int (nI e2)), some (.int j), some (.int n), none], [.int 7, .int 0, .int (nI e1)], mjH I X)) (fun _ => rfl) ?_
  refine mjGo.call (n := 3) (j := 132) (nx := 7) (o := some (.int 1)) (h' := mjH I X) (fun _ => rfl) ((by have q9 := c_mIn (d + 3) (nI e1) 0 7 (mjH I X); rw [mShelf_1 he1] at q9; exact q9)) ?_
  show mjGo _ _ 7 ([some (.ref 43), some (.int (nI e1)), some (.int i), some (.int (nI e2)), some (.int j), some (.int n), none], [.int 1], mjH I X) _
  refine mjGo.run 4 (pc' := 14) (F' := ([some (.ref 43), some (.int (nI e1)), some (.int i), some (.int (nI e2)), some (.int j), some (.int n), none], [.int 7, .int 0, .int (nI e2)], mjH I X)) (fun _ => rfl) ?_
  refine mjGo.call (n := 3) (j := 132) (nx := 17) (o := some (.int 1)) (h' := mjH I X) (fun _ => rfl) ((by have q9 := c_mIn (d + 3) (nI e2) 0 7 (mjH I X); rw [mShelf_1 he2] at q9; exact q9)) ?_
  show mjGo _ _ 17 ([some (.ref 43), some (.int (nI e1)), some (.int i), some (.int (nI e2)), some (.int j), some (.int n), none], [.int 1], mjH I X) _
  refine mjGo.run 4 (pc' := 27) (F' := ([some (.ref 43), some (.int (nI e1)), some (.int i), some (.int (nI e2)), some (.int j), some (.int n), none], [.int (nI e1), .ref 66], mjH I X)) (fun _ => rfl) ?_
  refine mjGo.op (pc' := 28) (F' := ([some (.ref 43), some (.int (nI e1)), some (.int i), some (.int (nI e2)), some (.int j), some (.int n), none], [.int (I 66 e1)], mjH I X)) (o := mjiald 28) rfl (fun _ => mjald_n (n := 8) (by omega) (by decide) (rfl) (rfl)) ?_
  refine mjGo.run 0 (pc' := 28) (F' := ([some (.ref 43), some (.int (nI e1)), some (.int i), some (.int (nI e2)), some (.int j), some (.int n), none], [.int (I 66 e1)], mjH I X)) (fun _ => rfl) ?_
  rw [show (I 66 e1) = 2 from hh1]
  refine mjGo.run 4 (pc' := 36) (F' := ([some (.ref 43), some (.int (nI e1)), some (.int i), some (.int (nI e2)), some (.int j), some (.int n), none], [.int (nI e2), .ref 66], mjH I X)) (fun _ => rfl) ?_
  refine mjGo.op (pc' := 37) (F' := ([some (.ref 43), some (.int (nI e1)), some (.int i), some (.int (nI e2)), some (.int j), some (.int n), none], [.int (I 66 e2)], mjH I X)) (o := mjiald 37) rfl (fun _ => mjald_n (n := 8) (by omega) (by decide) (rfl) (rfl)) ?_
  refine mjGo.run 0 (pc' := 37) (F' := ([some (.ref 43), some (.int (nI e1)), some (.int i), some (.int (nI e2)), some (.int j), some (.int n), none], [.int (I 66 e2)], mjH I X)) (fun _ => rfl) ?_
  rw [show (I 66 e2) = 2 from hh2]
  refine mjGo.run 4 (pc' := 48) (F' := ([some (.ref 43), some (.int (nI e1)), some (.int i), some (.int (nI e2)), some (.int j), some (.int n), none], [.int (nI e1), .ref 66], mjH I X)) (fun _ => rfl) ?_
  refine mjGo.op (pc' := 49) (F' := ([some (.ref 43), some (.int (nI e1)), some (.int i), some (.int (nI e2)), some (.int j), some (.int n), none], [.int (I 66 e1)], mjH I X)) (o := mjiald 49) rfl (fun _ => mjald_n (n := 8) (by omega) (by decide) (rfl) (rfl)) ?_
  refine mjGo.run 0 (pc' := 49) (F' := ([some (.ref 43), some (.int (nI e1)), some (.int i), some (.int (nI e2)), some (.int j), some (.int n), none], [.int (I 66 e1)], mjH I X)) (fun _ => rfl) ?_
  rw [show (I 66 e1) = 2 from hh1]
  refine mjGo.run 5 (pc' := 58) (F' := ([some (.ref 43), some (.int (nI e1)), some (.int i), some (.int (nI e2)), some (.int j), some (.int n), none], [.int (nI e2), .ref 66], mjH I X)) (fun _ => rfl) ?_
  refine mjGo.op (pc' := 59) (F' := ([some (.ref 43), some (.int (nI e1)), some (.int i), some (.int (nI e2)), some (.int j), some (.int n), none], [.int (I 66 e2)], mjH I X)) (o := mjiald 59) rfl (fun _ => mjald_n (n := 8) (by omega) (by decide) (rfl) (rfl)) ?_
  refine mjGo.run 0 (pc' := 59) (F' := ([some (.ref 43), some (.int (nI e1)), some (.int i), some (.int (nI e2)), some (.int j), some (.int n), none], [.int (I 66 e2)], mjH I X)) (fun _ => rfl) ?_
  rw [show (I 66 e2) = 2 from hh2]
  refine mjGo.run 5 (pc' := 68) (F' := ([some (.ref 43), some (.int (nI e1)), some (.int i), some (.int (nI e2)), some (.int j), some (.int n), none], [.int (nI e1), .ref 67], mjH I X)) (fun _ => rfl) ?_
  refine mjGo.op (pc' := 69) (F' := ([some (.ref 43), some (.int (nI e1)), some (.int i), some (.int (nI e2)), some (.int j), some (.int n), none], [.int (I 67 e1)], mjH I X)) (o := mjiald 69) rfl (fun _ => mjald_n (n := 8) (by omega) (by decide) (rfl) (rfl)) ?_
  refine mjGo.run 3 (pc' := 74) (F' := ([some (.ref 43), some (.int (nI e1)), some (.int i), some (.int (nI e2)), some (.int j), some (.int n), none], [.int (nI e2), .ref 67, .int (I 67 e1)], mjH I X)) (fun _ => rfl) ?_
  refine mjGo.op (pc' := 75) (F' := ([some (.ref 43), some (.int (nI e1)), some (.int i), some (.int (nI e2)), some (.int j), some (.int n), none], [.int (I 67 e2), .int (I 67 e1)], mjH I X)) (o := mjiald 75) rfl (fun _ => mjald_n (n := 8) (by omega) (by decide) (rfl) (rfl)) ?_
  refine mjGo.run 1 (pc' := (bif decide ((I 67 e1) = (I 67 e2)) then 81 else 78)) (F' := ([some (.ref 43), some (.int (nI e1)), some (.int i), some (.int (nI e2)), some (.int j), some (.int n), none], [], mjH I X)) (fun _ => rfl) ?_
  refine mjGo.brF (hq) ?_
  show mjGo _ _ 78 _ _
  exact mjGo.ret 2 (fun _ => rfl) rfl
theorem c_mCpN (d : Nat) {e1 e2 sz1 sz2 : Nat} {i j n : Int32} {I : Nat → Nat → Int32} {X : MX}(he1 : e1 < 8) (he2 : e2 < 8) (hh1 : I 66 e1 = 2) (hh2 : I 66 e2 = 2) (hq : I 67 e1 = I 67 e2) (hz1 : I 68 e1 = nI sz1) (hs1 : sz1 ≤ 100) (hz2 : I 68 e2 = nI sz2) (hs2 : sz2 ≤ 100) (h : ¬ (okC sz1 i n ∧ okC sz2 j n)) : mjEv (d + 4) nyX12_copy [.ref 43, .int (nI e1), .int i, .int (nI e2), .int j, .int n] (mjH I X) (.inl (some (.int (-13)))) (mjH I X) := by
  refine mjEv.of ?_
  show mjGo (d + 4) nyX12_copy 0 ([some (.ref 43), some (.int (nI e1)), some (.int i), some (.int (nI e2)), some (.int j), some (.int n), none], [], mjH I X) _
  refine mjGo.run 3 (pc' := 4) (F' := ([some (.ref 43), some (.int (nI e1)), some (.int i), some (.int (nI e2)), some (.int j), some (.int n), none], [.int 7, .int 0, .int (nI e1)], mjH I X)) (fun _ => rfl) ?_
  refine mjGo.call (n := 3) (j := 132) (nx := 7) (o := some (.int 1)) (h' := mjH I X) (fun _ => rfl) ((by have q9 := c_mIn (d + 3) (nI e1) 0 7 (mjH I X); rw [mShelf_1 he1] at q9; exact q9)) ?_
  show mjGo _ _ 7 ([some (.ref 43), some (.int (nI e1)), some (.int i), some (.int (nI e2)), some (.int j), some (.int n), none], [.int 1], mjH I X) _
  refine mjGo.run 4 (pc' := 14) (F' := ([some (.ref 43), some (.int (nI e1)), some (.int i), some (.int (nI e2)), some (.int j), some (.int n), none], [.int 7, .int 0, .int (nI e2)], mjH I X)) (fun _ => rfl) ?_
  refine mjGo.call (n := 3) (j := 132) (nx := 17) (o := some (.int 1)) (h' := mjH I X) (fun _ => rfl) ((by have q9 := c_mIn (d + 3) (nI e2) 0 7 (mjH I X); rw [mShelf_1 he2] at q9; exact q9)) ?_
  show mjGo _ _ 17 ([some (.ref 43), some (.int (nI e1)), some (.int i), some (.int (nI e2)), some (.int j), some (.int n), none], [.int 1], mjH I X) _
  refine mjGo.run 4 (pc' := 27) (F' := ([some (.ref 43), some (.int (nI e1)), some (.int i), some (.int (nI e2)), some (.int j), some (.int n), none], [.int (nI e1), .ref 66], mjH I X)) (fun _ => rfl) ?_
  refine mjGo.op (pc' := 28) (F' := ([some (.ref 43), some (.int (nI e1)), some (.int i), some (.int (nI e2)), some (.int j), some (.int n), none], [.int (I 66 e1)], mjH I X)) (o := mjiald 28) rfl (fun _ => mjald_n (n := 8) (by omega) (by decide) (rfl) (rfl)) ?_
  refine mjGo.run 0 (pc' := 28) (F' := ([some (.ref 43), some (.int (nI e1)), some (.int i), some (.int (nI e2)), some (.int j), some (.int n), none], [.int (I 66 e1)], mjH I X)) (fun _ => rfl) ?_
  rw [show (I 66 e1) = 2 from hh1]
  refine mjGo.run 4 (pc' := 36) (F' := ([some (.ref 43), some (.int (nI e1)), some (.int i), some (.int (nI e2)), some (.int j), some (.int n), none], [.int (nI e2), .ref 66], mjH I X)) (fun _ => rfl) ?_
  refine mjGo.op (pc' := 37) (F' := ([some (.ref 43), some (.int (nI e1)), some (.int i), some (.int (nI e2)), some (.int j), some (.int n), none], [.int (I 66 e2)], mjH I X)) (o := mjiald 37) rfl (fun _ => mjald_n (n := 8) (by omega) (by decide) (rfl) (rfl)) ?_
  refine mjGo.run 0 (pc' := 37) (F' := ([some (.ref 43), some (.int (nI e1)), some (.int i), some (.int (nI e2)), some (.int j), some (.int n), none], [.int (I 66 e2)], mjH I X)) (fun _ => rfl) ?_
  rw [show (I 66 e2) = 2 from hh2]
  refine mjGo.run 4 (pc' := 48) (F' := ([some (.ref 43), some (.int (nI e1)), some (.int i), some (.int (nI e2)), some (.int j), some (.int n), none], [.int (nI e1), .ref 66], mjH I X)) (fun _ => rfl) ?_
  refine mjGo.op (pc' := 49) (F' := ([some (.ref 43), some (.int (nI e1)), some (.int i), some (.int (nI e2)), some (.int j), some (.int n), none], [.int (I 66 e1)], mjH I X)) (o := mjiald 49) rfl (fun _ => mjald_n (n := 8) (by omega) (by decide) (rfl) (rfl)) ?_
  refine mjGo.run 0 (pc' := 49) (F' := ([some (.ref 43), some (.int (nI e1)), some (.int i), some (.int (nI e2)), some (.int j), some (.int n), none], [.int (I 66 e1)], mjH I X)) (fun _ => rfl) ?_
  rw [show (I 66 e1) = 2 from hh1]
  refine mjGo.run 5 (pc' := 58) (F' := ([some (.ref 43), some (.int (nI e1)), some (.int i), some (.int (nI e2)), some (.int j), some (.int n), none], [.int (nI e2), .ref 66], mjH I X)) (fun _ => rfl) ?_
  refine mjGo.op (pc' := 59) (F' := ([some (.ref 43), some (.int (nI e1)), some (.int i), some (.int (nI e2)), some (.int j), some (.int n), none], [.int (I 66 e2)], mjH I X)) (o := mjiald 59) rfl (fun _ => mjald_n (n := 8) (by omega) (by decide) (rfl) (rfl)) ?_
  refine mjGo.run 0 (pc' := 59) (F' := ([some (.ref 43), some (.int (nI e1)), some (.int i), some (.int (nI e2)), some (.int j), some (.int n), none], [.int (I 66 e2)], mjH I X)) (fun _ => rfl) ?_
  rw [show (I 66 e2) = 2 from hh2]
  refine mjGo.run 5 (pc' := 68) (F' := ([some (.ref 43), some (.int (nI e1)), some (.int i), some (.int (nI e2)), some (.int j), some (.int n), none], [.int (nI e1), .ref 67], mjH I X)) (fun _ => rfl) ?_
  refine mjGo.op (pc' := 69) (F' := ([some (.ref 43), some (.int (nI e1)), some (.int i), some (.int (nI e2)), some (.int j), some (.int n), none], [.int (I 67 e1)], mjH I X)) (o := mjiald 69) rfl (fun _ => mjald_n (n := 8) (by omega) (by decide) (rfl) (rfl)) ?_
  refine mjGo.run 3 (pc' := 74) (F' := ([some (.ref 43), some (.int (nI e1)), some (.int i), some (.int (nI e2)), some (.int j), some (.int n), none], [.int (nI e2), .ref 67, .int (I 67 e1)], mjH I X)) (fun _ => rfl) ?_
  refine mjGo.op (pc' := 75) (F' := ([some (.ref 43), some (.int (nI e1)), some (.int i), some (.int (nI e2)), some (.int j), some (.int n), none], [.int (I 67 e2), .int (I 67 e1)], mjH I X)) (o := mjiald 75) rfl (fun _ => mjald_n (n := 8) (by omega) (by decide) (rfl) (rfl)) ?_
  refine mjGo.run 1 (pc' := (bif decide ((I 67 e1) = (I 67 e2)) then 81 else 78)) (F' := ([some (.ref 43), some (.int (nI e1)), some (.int i), some (.int (nI e2)), some (.int j), some (.int n), none], [], mjH I X)) (fun _ => rfl) ?_
  refine mjGo.brT (hq) ?_
  show mjGo _ _ 81 _ _
  refine mjGo.run 2 (pc' := (bif decide (n < 0) then 122 else 86)) (F' := ([some (.ref 43), some (.int (nI e1)), some (.int i), some (.int (nI e2)), some (.int j), some (.int n), none], [], mjH I X)) (fun _ => rfl) ?_
  refine mjGo.br (fun q1 => ?_) (fun q1 => ?_)
  · show mjGo _ _ 122 _ _
    exact mjGo.ret 2 (fun _ => rfl) rfl
  · show mjGo _ _ 86 _ _
    refine mjGo.run 2 (pc' := (bif decide (i < 0) then 122 else 90)) (F' := ([some (.ref 43), some (.int (nI e1)), some (.int i), some (.int (nI e2)), some (.int j), some (.int n), none], [], mjH I X)) (fun _ => rfl) ?_
    refine mjGo.br (fun q2 => ?_) (fun q2 => ?_)
    · show mjGo _ _ 122 _ _
      exact mjGo.ret 2 (fun _ => rfl) rfl
    · show mjGo _ _ 90 _ _
      refine mjGo.run 2 (pc' := (bif decide (j < 0) then 122 else 95)) (F' := ([some (.ref 43), some (.int (nI e1)), some (.int i), some (.int (nI e2)), some (.int j), some (.int n), none], [], mjH I X)) (fun _ => rfl) ?_
      refine mjGo.br (fun q3 => ?_) (fun q3 => ?_)
      · show mjGo _ _ 122 _ _
        exact mjGo.ret 2 (fun _ => rfl) rfl
      · show mjGo _ _ 95 _ _
        refine mjGo.run 4 (pc' := 102) (F' := ([some (.ref 43), some (.int (nI e1)), some (.int i), some (.int (nI e2)), some (.int j), some (.int n), none], [.int (nI e1), .ref 68, .int n], mjH I X)) (fun _ => rfl) ?_
        refine mjGo.op (pc' := 103) (F' := ([some (.ref 43), some (.int (nI e1)), some (.int i), some (.int (nI e2)), some (.int j), some (.int n), none], [.int (I 68 e1), .int n], mjH I X)) (o := mjiald 103) rfl (fun _ => mjald_n (n := 8) (by omega) (by decide) (rfl) (rfl)) ?_
        refine mjGo.run 3 (pc' := (bif decide (((I 68 e1) - i) < n) then 122 else 108)) (F' := ([some (.ref 43), some (.int (nI e1)), some (.int i), some (.int (nI e2)), some (.int j), some (.int n), none], [], mjH I X)) (fun _ => rfl) ?_
        refine mjGo.br (fun q4 => ?_) (fun q4 => ?_)
        · show mjGo _ _ 122 _ _
          exact mjGo.ret 2 (fun _ => rfl) rfl
        · show mjGo _ _ 108 _ _
          refine mjGo.run 4 (pc' := 115) (F' := ([some (.ref 43), some (.int (nI e1)), some (.int i), some (.int (nI e2)), some (.int j), some (.int n), none], [.int (nI e2), .ref 68, .int n], mjH I X)) (fun _ => rfl) ?_
          refine mjGo.op (pc' := 116) (F' := ([some (.ref 43), some (.int (nI e1)), some (.int i), some (.int (nI e2)), some (.int j), some (.int n), none], [.int (I 68 e2), .int n], mjH I X)) (o := mjiald 116) rfl (fun _ => mjald_n (n := 8) (by omega) (by decide) (rfl) (rfl)) ?_
          refine mjGo.run 3 (pc' := (bif decide (n ≤ ((I 68 e2) - j)) then 125 else 122)) (F' := ([some (.ref 43), some (.int (nI e1)), some (.int i), some (.int (nI e2)), some (.int j), some (.int n), none], [], mjH I X)) (fun _ => rfl) ?_
          refine mjGo.br (fun q5 => ?_) (fun q5 => ?_)
          · show mjGo _ _ 125 _ _
            exfalso
            have e0 : (0 : Int32).toInt = 0 := by decide
            have z1 := nI_toInt (n := sz1) (by omega)
            have z2 := nI_toInt (n := sz2) (by omega)
            have b1 := Int32.toInt_lt i
            have b2 := Int32.toInt_lt j
            have b3 := Int32.toInt_lt n
            rw [i32_lt, e0] at q1 q2 q3
            rw [hz1, i32_lt, i32_sub (by rw [z1]; omega) (by rw [z1]; omega), z1] at q4
            rw [hz2, i32_le, i32_sub (by rw [z2]; omega) (by rw [z2]; omega), z2] at q5
            unfold okC at h
            omega
          · show mjGo _ _ 122 _ _
            exact mjGo.ret 2 (fun _ => rfl) rfl
theorem m_cp_l2 {d e1 e2 i j n : Nat} {I : Nat → Nat → Int32} {X : MX} (he1 : e1 < 8) (he2 : e2 < 8) (g1 : i + n ≤ 100) (g2 : j + n ≤ 100) : ∀ (k t : Nat), t + k = n → mjGo d nyX12_copy 165 ([some (.ref 43), some (.int (nI e1)), some (.int (nI i)), some (.int (nI e2)), some (.int (nI j)), some (.int (nI n)), some (.int (nI t))], [], mjH (mjR (mjR I 70 (va_cpy (I 69) (I 70) (100 * e1 + i) 0 n)) 69 (va_cpy (I 69) (I 69) (100 * e1 + i) (100 * e2 + j) t)) X) (fun x => x = (.inl (some (.int (nI n))), mjH (mjR (mjR I 70 (va_cpy (I 69) (I 70) (100 * e1 + i) 0 n)) 69 (va_cpy (I 69) (I 69) (100 * e1 + i) (100 * e2 + j) n)) X)) := by
  intro k
  induction k with
  | zero =>
    intro t ht
    have e : t = n := by omega
    subst e
    refine mjGo.run 2 (pc' := 169) (F' := ([some (.ref 43), some (.int (nI e1)), some (.int (nI i)), some (.int (nI e2)), some (.int (nI j)), some (.int (nI t)), some (.int (nI t))], [.int (nI t), .int (nI t)], mjH (mjR (mjR I 70 (va_cpy (I 69) (I 70) (100 * e1 + i) 0 t)) 69 (va_cpy (I 69) (I 69) (100 * e1 + i) (100 * e2 + j) t)) X)) (fun _ => rfl) ?_
    refine mjGo.run 1 (pc' := (bif decide ((nI t) ≤ (nI t)) then 200 else 172)) (F' := ([some (.ref 43), some (.int (nI e1)), some (.int (nI i)), some (.int (nI e2)), some (.int (nI j)), some (.int (nI t)), some (.int (nI t))], [], mjH (mjR (mjR I 70 (va_cpy (I 69) (I 70) (100 * e1 + i) 0 t)) 69 (va_cpy (I 69) (I 69) (100 * e1 + i) (100 * e2 + j) t)) X)) (fun _ => rfl) ?_
    refine mjGo.brT (show (nI t) ≤ (nI t) by rw [nI_leI (by omega) (by omega)]; omega) ?_
    show mjGo _ _ 200 _ _
    exact mjGo.ret 2 (fun _ => rfl) rfl
  | succ k ih =>
    intro t ht
    refine mjGo.run 2 (pc' := 169) (F' := ([some (.ref 43), some (.int (nI e1)), some (.int (nI i)), some (.int (nI e2)), some (.int (nI j)), some (.int (nI n)), some (.int (nI t))], [.int (nI n), .int (nI t)], mjH (mjR (mjR I 70 (va_cpy (I 69) (I 70) (100 * e1 + i) 0 n)) 69 (va_cpy (I 69) (I 69) (100 * e1 + i) (100 * e2 + j) t)) X)) (fun _ => rfl) ?_
    refine mjGo.run 1 (pc' := (bif decide ((nI n) ≤ (nI t)) then 200 else 172)) (F' := ([some (.ref 43), some (.int (nI e1)), some (.int (nI i)), some (.int (nI e2)), some (.int (nI j)), some (.int (nI n)), some (.int (nI t))], [], mjH (mjR (mjR I 70 (va_cpy (I 69) (I 70) (100 * e1 + i) 0 n)) 69 (va_cpy (I 69) (I 69) (100 * e1 + i) (100 * e2 + j) t)) X)) (fun _ => rfl) ?_
    refine mjGo.brF (show ¬ (nI n) ≤ (nI t) by rw [nI_leI (by omega) (by omega)]; omega) ?_
    show mjGo _ _ 172 _ _
    refine mjGo.run 9 (pc' := 186) (F' := ([some (.ref 43), some (.int (nI e1)), some (.int (nI i)), some (.int (nI e2)), some (.int (nI j)), some (.int (nI n)), some (.int (nI t))], [.int (((100 * (nI e2)) + (nI j)) + (nI t)), .ref 69], mjH (mjR (mjR I 70 (va_cpy (I 69) (I 70) (100 * e1 + i) 0 n)) 69 (va_cpy (I 69) (I 69) (100 * e1 + i) (100 * e2 + j) t)) X)) (fun _ => rfl) ?_
    refine mjGo.run 0 (pc' := 186) (F' := ([some (.ref 43), some (.int (nI e1)), some (.int (nI i)), some (.int (nI e2)), some (.int (nI j)), some (.int (nI n)), some (.int (nI t))], [.int (((100 * (nI e2)) + (nI j)) + (nI t)), .ref 69], mjH (mjR (mjR I 70 (va_cpy (I 69) (I 70) (100 * e1 + i) 0 n)) 69 (va_cpy (I 69) (I 69) (100 * e1 + i) (100 * e2 + j) t)) X)) (fun _ => rfl) ?_
    rw [show (((100 * (nI e2)) + (nI j)) + (nI t)) = (nI (100 * e2 + j + t)) from by rw [idx_eq, nI_add]]
    refine mjGo.run 3 (pc' := 192) (F' := ([some (.ref 43), some (.int (nI e1)), some (.int (nI i)), some (.int (nI e2)), some (.int (nI j)), some (.int (nI n)), some (.int (nI t))], [.int (nI t), .ref 70, .int (nI (100 * e2 + j + t)), .ref 69], mjH (mjR (mjR I 70 (va_cpy (I 69) (I 70) (100 * e1 + i) 0 n)) 69 (va_cpy (I 69) (I 69) (100 * e1 + i) (100 * e2 + j) t)) X)) (fun _ => rfl) ?_
    refine mjGo.op (pc' := 193) (F' := ([some (.ref 43), some (.int (nI e1)), some (.int (nI i)), some (.int (nI e2)), some (.int (nI j)), some (.int (nI n)), some (.int (nI t))], [.int ((mjR (mjR I 70 (va_cpy (I 69) (I 70) (100 * e1 + i) 0 n)) 69 (va_cpy (I 69) (I 69) (100 * e1 + i) (100 * e2 + j) t)) 70 t), .int (nI (100 * e2 + j + t)), .ref 69], mjH (mjR (mjR I 70 (va_cpy (I 69) (I 70) (100 * e1 + i) 0 n)) 69 (va_cpy (I 69) (I 69) (100 * e1 + i) (100 * e2 + j) t)) X)) (o := mjiald 193) rfl (fun _ => mjald_n (n := 100) (by omega) (by decide) (rfl) (rfl)) ?_
    refine mjGo.run 0 (pc' := 193) (F' := ([some (.ref 43), some (.int (nI e1)), some (.int (nI i)), some (.int (nI e2)), some (.int (nI j)), some (.int (nI n)), some (.int (nI t))], [.int ((mjR (mjR I 70 (va_cpy (I 69) (I 70) (100 * e1 + i) 0 n)) 69 (va_cpy (I 69) (I 69) (100 * e1 + i) (100 * e2 + j) t)) 70 t), .int (nI (100 * e2 + j + t)), .ref 69], mjH (mjR (mjR I 70 (va_cpy (I 69) (I 70) (100 * e1 + i) 0 n)) 69 (va_cpy (I 69) (I 69) (100 * e1 + i) (100 * e2 + j) t)) X)) (fun _ => rfl) ?_
    rw [show ((mjR (mjR I 70 (va_cpy (I 69) (I 70) (100 * e1 + i) 0 n)) 69 (va_cpy (I 69) (I 69) (100 * e1 + i) (100 * e2 + j) t)) 70 t) = I 69 (100 * e1 + i + t) from by show va_cpy (I 69) (I 70) (100 * e1 + i) 0 n t = _; unfold va_cpy; rw [if_pos (by omega), Nat.sub_zero]]
    refine mjGo.op (pc' := 194) (F' := ([some (.ref 43), some (.int (nI e1)), some (.int (nI i)), some (.int (nI e2)), some (.int (nI j)), some (.int (nI n)), some (.int (nI t))], [], mjH (mjU (mjR (mjR I 70 (va_cpy (I 69) (I 70) (100 * e1 + i) 0 n)) 69 (va_cpy (I 69) (I 69) (100 * e1 + i) (100 * e2 + j) t)) 69 (100 * e2 + j + t) (I 69 (100 * e1 + i + t))) X)) (o := mjiast 194) rfl (fun _ => mjast_n (n := 800) (by omega) (by decide) (rfl) (rfl)) ?_
    refine mjGo.run 2 (pc' := 165) (F' := ([some (.ref 43), some (.int (nI e1)), some (.int (nI i)), some (.int (nI e2)), some (.int (nI j)), some (.int (nI n)), some (.int ((nI t) + 1))], [], mjH (mjU (mjR (mjR I 70 (va_cpy (I 69) (I 70) (100 * e1 + i) 0 n)) 69 (va_cpy (I 69) (I 69) (100 * e1 + i) (100 * e2 + j) t)) 69 (100 * e2 + j + t) (I 69 (100 * e1 + i + t))) X)) (fun _ => rfl) ?_
    rw [show (mjU (mjR (mjR I 70 (va_cpy (I 69) (I 70) (100 * e1 + i) 0 n)) 69 (va_cpy (I 69) (I 69) (100 * e1 + i) (100 * e2 + j) t)) 69 (100 * e2 + j + t) (I 69 (100 * e1 + i + t))) = (mjR (mjR I 70 (va_cpy (I 69) (I 70) (100 * e1 + i) 0 n)) 69 (va_cpy (I 69) (I 69) (100 * e1 + i) (100 * e2 + j) (t + 1))) from cpy_s (t := 100 * e2 + j) rfl]
    have k9 := ih (t + 1) (by omega)
    rw [← nI_1] at k9
    exact k9
theorem m_cp_l1 {d e1 e2 i j n : Nat} {I : Nat → Nat → Int32} {X : MX} (he1 : e1 < 8) (he2 : e2 < 8) (g1 : i + n ≤ 100) (g2 : j + n ≤ 100) : ∀ (k t : Nat), t + k = n → mjGo d nyX12_copy 128 ([some (.ref 43), some (.int (nI e1)), some (.int (nI i)), some (.int (nI e2)), some (.int (nI j)), some (.int (nI n)), some (.int (nI t))], [], mjH (mjR I 70 (va_cpy (I 69) (I 70) (100 * e1 + i) 0 t)) X) (fun x => x = (.inl (some (.int (nI n))), mjH (mjR (mjR I 70 (va_cpy (I 69) (I 70) (100 * e1 + i) 0 n)) 69 (va_cpy (I 69) (I 69) (100 * e1 + i) (100 * e2 + j) n)) X)) := by
  intro k
  induction k with
  | zero =>
    intro t ht
    have e : t = n := by omega
    subst e
    refine mjGo.run 2 (pc' := 132) (F' := ([some (.ref 43), some (.int (nI e1)), some (.int (nI i)), some (.int (nI e2)), some (.int (nI j)), some (.int (nI t)), some (.int (nI t))], [.int (nI t), .int (nI t)], mjH (mjR I 70 (va_cpy (I 69) (I 70) (100 * e1 + i) 0 t)) X)) (fun _ => rfl) ?_
    refine mjGo.run 1 (pc' := (bif decide ((nI t) ≤ (nI t)) then 162 else 135)) (F' := ([some (.ref 43), some (.int (nI e1)), some (.int (nI i)), some (.int (nI e2)), some (.int (nI j)), some (.int (nI t)), some (.int (nI t))], [], mjH (mjR I 70 (va_cpy (I 69) (I 70) (100 * e1 + i) 0 t)) X)) (fun _ => rfl) ?_
    refine mjGo.brT (show (nI t) ≤ (nI t) by rw [nI_leI (by omega) (by omega)]; omega) ?_
    show mjGo _ _ 162 _ _
    refine mjGo.run 2 (pc' := 165) (F' := ([some (.ref 43), some (.int (nI e1)), some (.int (nI i)), some (.int (nI e2)), some (.int (nI j)), some (.int (nI t)), some (.int 0)], [], mjH (mjR I 70 (va_cpy (I 69) (I 70) (100 * e1 + i) 0 t)) X)) (fun _ => rfl) ?_
    have k9 := m_cp_l2 (d := d) (I := I) (X := X) he1 he2 g1 g2 t 0 (by omega)
    rw [cpy_0, show mjR (mjR I 70 (va_cpy (I 69) (I 70) (100 * e1 + i) 0 t)) 69 (I 69) = (mjR I 70 (va_cpy (I 69) (I 70) (100 * e1 + i) 0 t)) from mjR_id (f := (mjR I 70 (va_cpy (I 69) (I 70) (100 * e1 + i) 0 t)))] at k9
    exact k9
  | succ k ih =>
    intro t ht
    refine mjGo.run 2 (pc' := 132) (F' := ([some (.ref 43), some (.int (nI e1)), some (.int (nI i)), some (.int (nI e2)), some (.int (nI j)), some (.int (nI n)), some (.int (nI t))], [.int (nI n), .int (nI t)], mjH (mjR I 70 (va_cpy (I 69) (I 70) (100 * e1 + i) 0 t)) X)) (fun _ => rfl) ?_
    refine mjGo.run 1 (pc' := (bif decide ((nI n) ≤ (nI t)) then 162 else 135)) (F' := ([some (.ref 43), some (.int (nI e1)), some (.int (nI i)), some (.int (nI e2)), some (.int (nI j)), some (.int (nI n)), some (.int (nI t))], [], mjH (mjR I 70 (va_cpy (I 69) (I 70) (100 * e1 + i) 0 t)) X)) (fun _ => rfl) ?_
    refine mjGo.brF (show ¬ (nI n) ≤ (nI t) by rw [nI_leI (by omega) (by omega)]; omega) ?_
    show mjGo _ _ 135 _ _
    refine mjGo.run 12 (pc' := 154) (F' := ([some (.ref 43), some (.int (nI e1)), some (.int (nI i)), some (.int (nI e2)), some (.int (nI j)), some (.int (nI n)), some (.int (nI t))], [.int (((100 * (nI e1)) + (nI i)) + (nI t)), .ref 69, .int (nI t), .ref 70], mjH (mjR I 70 (va_cpy (I 69) (I 70) (100 * e1 + i) 0 t)) X)) (fun _ => rfl) ?_
    refine mjGo.run 0 (pc' := 154) (F' := ([some (.ref 43), some (.int (nI e1)), some (.int (nI i)), some (.int (nI e2)), some (.int (nI j)), some (.int (nI n)), some (.int (nI t))], [.int (((100 * (nI e1)) + (nI i)) + (nI t)), .ref 69, .int (nI t), .ref 70], mjH (mjR I 70 (va_cpy (I 69) (I 70) (100 * e1 + i) 0 t)) X)) (fun _ => rfl) ?_
    rw [show (((100 * (nI e1)) + (nI i)) + (nI t)) = (nI (100 * e1 + i + t)) from by rw [idx_eq, nI_add]]
    refine mjGo.op (pc' := 155) (F' := ([some (.ref 43), some (.int (nI e1)), some (.int (nI i)), some (.int (nI e2)), some (.int (nI j)), some (.int (nI n)), some (.int (nI t))], [.int ((mjR I 70 (va_cpy (I 69) (I 70) (100 * e1 + i) 0 t)) 69 (100 * e1 + i + t)), .int (nI t), .ref 70], mjH (mjR I 70 (va_cpy (I 69) (I 70) (100 * e1 + i) 0 t)) X)) (o := mjiald 155) rfl (fun _ => mjald_n (n := 800) (by omega) (by decide) (rfl) (rfl)) ?_
    refine mjGo.run 0 (pc' := 155) (F' := ([some (.ref 43), some (.int (nI e1)), some (.int (nI i)), some (.int (nI e2)), some (.int (nI j)), some (.int (nI n)), some (.int (nI t))], [.int ((mjR I 70 (va_cpy (I 69) (I 70) (100 * e1 + i) 0 t)) 69 (100 * e1 + i + t)), .int (nI t), .ref 70], mjH (mjR I 70 (va_cpy (I 69) (I 70) (100 * e1 + i) 0 t)) X)) (fun _ => rfl) ?_
    rw [show ((mjR I 70 (va_cpy (I 69) (I 70) (100 * e1 + i) 0 t)) 69 (100 * e1 + i + t)) = I 69 (100 * e1 + i + t) from rfl]
    refine mjGo.op (pc' := 156) (F' := ([some (.ref 43), some (.int (nI e1)), some (.int (nI i)), some (.int (nI e2)), some (.int (nI j)), some (.int (nI n)), some (.int (nI t))], [], mjH (mjU (mjR I 70 (va_cpy (I 69) (I 70) (100 * e1 + i) 0 t)) 70 t (I 69 (100 * e1 + i + t))) X)) (o := mjiast 156) rfl (fun _ => mjast_n (n := 100) (by omega) (by decide) (rfl) (rfl)) ?_
    refine mjGo.run 2 (pc' := 128) (F' := ([some (.ref 43), some (.int (nI e1)), some (.int (nI i)), some (.int (nI e2)), some (.int (nI j)), some (.int (nI n)), some (.int ((nI t) + 1))], [], mjH (mjU (mjR I 70 (va_cpy (I 69) (I 70) (100 * e1 + i) 0 t)) 70 t (I 69 (100 * e1 + i + t))) X)) (fun _ => rfl) ?_
    rw [show mjU (mjR I 70 (va_cpy (I 69) (I 70) (100 * e1 + i) 0 t)) 70 t (I 69 (100 * e1 + i + t)) = (mjR I 70 (va_cpy (I 69) (I 70) (100 * e1 + i) 0 (t + 1))) from by have q9 := cpy_s (I := I) (f := I 69) (g := I 70) (k := 70) (s := 100 * e1 + i) (t := 0) (n := t) rfl; rw [Nat.zero_add] at q9; exact q9]
    have k9 := ih (t + 1) (by omega)
    rw [← nI_1] at k9
    exact k9
theorem c_mCpY (d : Nat) {e1 e2 sz1 sz2 i j n : Nat} {I : Nat → Nat → Int32} {X : MX} (he1 : e1 < 8) (he2 : e2 < 8) (hh1 : I 66 e1 = 2) (hh2 : I 66 e2 = 2) (hq : I 67 e1 = I 67 e2) (hz1 : I 68 e1 = nI sz1) (hs1 : sz1 ≤ 100) (hz2 : I 68 e2 = nI sz2) (hs2 : sz2 ≤ 100) (g1 : i + n ≤ sz1) (g2 : j + n ≤ sz2) : mjEv (d + 4) nyX12_copy [.ref 43, .int (nI e1), .int (nI i), .int (nI e2), .int (nI j), .int (nI n)] (mjH I X) (.inl (some (.int (nI n)))) (mjH (mjR (mjR I 70 (va_cpy (I 69) (I 70) (100 * e1 + i) 0 n)) 69 (va_cpy (I 69) (I 69) (100 * e1 + i) (100 * e2 + j) n)) X) := by
  refine mjEv.of ?_
  show mjGo (d + 4) nyX12_copy 0 ([some (.ref 43), some (.int (nI e1)), some (.int (nI i)), some (.int (nI e2)), some (.int (nI j)), some (.int (nI n)), none], [], mjH I X) _
  refine mjGo.run 3 (pc' := 4) (F' := ([some (.ref 43), some (.int (nI e1)), some (.int (nI i)), some (.int (nI e2)), some (.int (nI j)), some (.int (nI n)), none], [.int 7, .int 0, .int (nI e1)], mjH I X)) (fun _ => rfl) ?_
  refine mjGo.call (n := 3) (j := 132) (nx := 7) (o := some (.int 1)) (h' := mjH I X) (fun _ => rfl) ((by have q9 := c_mIn (d + 3) (nI e1) 0 7 (mjH I X); rw [mShelf_1 he1] at q9; exact q9)) ?_
  show mjGo _ _ 7 ([some (.ref 43), some (.int (nI e1)), some (.int (nI i)), some (.int (nI e2)), some (.int (nI j)), some (.int (nI n)), none], [.int 1], mjH I X) _
  refine mjGo.run 4 (pc' := 14) (F' := ([some (.ref 43), some (.int (nI e1)), some (.int (nI i)), some (.int (nI e2)), some (.int (nI j)), some (.int (nI n)), none], [.int 7, .int 0, .int (nI e2)], mjH I X)) (fun _ => rfl) ?_
  refine mjGo.call (n := 3) (j := 132) (nx := 17) (o := some (.int 1)) (h' := mjH I X) (fun _ => rfl) ((by have q9 := c_mIn (d + 3) (nI e2) 0 7 (mjH I X); rw [mShelf_1 he2] at q9; exact q9)) ?_
  show mjGo _ _ 17 ([some (.ref 43), some (.int (nI e1)), some (.int (nI i)), some (.int (nI e2)), some (.int (nI j)), some (.int (nI n)), none], [.int 1], mjH I X) _
  refine mjGo.run 4 (pc' := 27) (F' := ([some (.ref 43), some (.int (nI e1)), some (.int (nI i)), some (.int (nI e2)), some (.int (nI j)), some (.int (nI n)), none], [.int (nI e1), .ref 66], mjH I X)) (fun _ => rfl) ?_
  refine mjGo.op (pc' := 28) (F' := ([some (.ref 43), some (.int (nI e1)), some (.int (nI i)), some (.int (nI e2)), some (.int (nI j)), some (.int (nI n)), none], [.int (I 66 e1)], mjH I X)) (o := mjiald 28) rfl (fun _ => mjald_n (n := 8) (by omega) (by decide) (rfl) (rfl)) ?_
  refine mjGo.run 0 (pc' := 28) (F' := ([some (.ref 43), some (.int (nI e1)), some (.int (nI i)), some (.int (nI e2)), some (.int (nI j)), some (.int (nI n)), none], [.int (I 66 e1)], mjH I X)) (fun _ => rfl) ?_
  rw [show (I 66 e1) = 2 from hh1]
  refine mjGo.run 4 (pc' := 36) (F' := ([some (.ref 43), some (.int (nI e1)), some (.int (nI i)), some (.int (nI e2)), some (.int (nI j)), some (.int (nI n)), none], [.int (nI e2), .ref 66], mjH I X)) (fun _ => rfl) ?_
  refine mjGo.op (pc' := 37) (F' := ([some (.ref 43), some (.int (nI e1)), some (.int (nI i)), some (.int (nI e2)), some (.int (nI j)), some (.int (nI n)), none], [.int (I 66 e2)], mjH I X)) (o := mjiald 37) rfl (fun _ => mjald_n (n := 8) (by omega) (by decide) (rfl) (rfl)) ?_
  refine mjGo.run 0 (pc' := 37) (F' := ([some (.ref 43), some (.int (nI e1)), some (.int (nI i)), some (.int (nI e2)), some (.int (nI j)), some (.int (nI n)), none], [.int (I 66 e2)], mjH I X)) (fun _ => rfl) ?_
  rw [show (I 66 e2) = 2 from hh2]
  refine mjGo.run 4 (pc' := 48) (F' := ([some (.ref 43), some (.int (nI e1)), some (.int (nI i)), some (.int (nI e2)), some (.int (nI j)), some (.int (nI n)), none], [.int (nI e1), .ref 66], mjH I X)) (fun _ => rfl) ?_
  refine mjGo.op (pc' := 49) (F' := ([some (.ref 43), some (.int (nI e1)), some (.int (nI i)), some (.int (nI e2)), some (.int (nI j)), some (.int (nI n)), none], [.int (I 66 e1)], mjH I X)) (o := mjiald 49) rfl (fun _ => mjald_n (n := 8) (by omega) (by decide) (rfl) (rfl)) ?_
  refine mjGo.run 0 (pc' := 49) (F' := ([some (.ref 43), some (.int (nI e1)), some (.int (nI i)), some (.int (nI e2)), some (.int (nI j)), some (.int (nI n)), none], [.int (I 66 e1)], mjH I X)) (fun _ => rfl) ?_
  rw [show (I 66 e1) = 2 from hh1]
  refine mjGo.run 5 (pc' := 58) (F' := ([some (.ref 43), some (.int (nI e1)), some (.int (nI i)), some (.int (nI e2)), some (.int (nI j)), some (.int (nI n)), none], [.int (nI e2), .ref 66], mjH I X)) (fun _ => rfl) ?_
  refine mjGo.op (pc' := 59) (F' := ([some (.ref 43), some (.int (nI e1)), some (.int (nI i)), some (.int (nI e2)), some (.int (nI j)), some (.int (nI n)), none], [.int (I 66 e2)], mjH I X)) (o := mjiald 59) rfl (fun _ => mjald_n (n := 8) (by omega) (by decide) (rfl) (rfl)) ?_
  refine mjGo.run 0 (pc' := 59) (F' := ([some (.ref 43), some (.int (nI e1)), some (.int (nI i)), some (.int (nI e2)), some (.int (nI j)), some (.int (nI n)), none], [.int (I 66 e2)], mjH I X)) (fun _ => rfl) ?_
  rw [show (I 66 e2) = 2 from hh2]
  refine mjGo.run 5 (pc' := 68) (F' := ([some (.ref 43), some (.int (nI e1)), some (.int (nI i)), some (.int (nI e2)), some (.int (nI j)), some (.int (nI n)), none], [.int (nI e1), .ref 67], mjH I X)) (fun _ => rfl) ?_
  refine mjGo.op (pc' := 69) (F' := ([some (.ref 43), some (.int (nI e1)), some (.int (nI i)), some (.int (nI e2)), some (.int (nI j)), some (.int (nI n)), none], [.int (I 67 e1)], mjH I X)) (o := mjiald 69) rfl (fun _ => mjald_n (n := 8) (by omega) (by decide) (rfl) (rfl)) ?_
  refine mjGo.run 3 (pc' := 74) (F' := ([some (.ref 43), some (.int (nI e1)), some (.int (nI i)), some (.int (nI e2)), some (.int (nI j)), some (.int (nI n)), none], [.int (nI e2), .ref 67, .int (I 67 e1)], mjH I X)) (fun _ => rfl) ?_
  refine mjGo.op (pc' := 75) (F' := ([some (.ref 43), some (.int (nI e1)), some (.int (nI i)), some (.int (nI e2)), some (.int (nI j)), some (.int (nI n)), none], [.int (I 67 e2), .int (I 67 e1)], mjH I X)) (o := mjiald 75) rfl (fun _ => mjald_n (n := 8) (by omega) (by decide) (rfl) (rfl)) ?_
  refine mjGo.run 1 (pc' := (bif decide ((I 67 e1) = (I 67 e2)) then 81 else 78)) (F' := ([some (.ref 43), some (.int (nI e1)), some (.int (nI i)), some (.int (nI e2)), some (.int (nI j)), some (.int (nI n)), none], [], mjH I X)) (fun _ => rfl) ?_
  refine mjGo.brT (hq) ?_
  show mjGo _ _ 81 _ _
  refine mjGo.run 1 (pc' := 83) (F' := ([some (.ref 43), some (.int (nI e1)), some (.int (nI i)), some (.int (nI e2)), some (.int (nI j)), some (.int (nI n)), none], [.int (nI n)], mjH I X)) (fun _ => rfl) ?_
  refine mjGo.run 1 (pc' := (bif decide ((nI n) < 0) then 122 else 86)) (F' := ([some (.ref 43), some (.int (nI e1)), some (.int (nI i)), some (.int (nI e2)), some (.int (nI j)), some (.int (nI n)), none], [], mjH I X)) (fun _ => rfl) ?_
  refine mjGo.brF (show ¬ (nI n) < 0 by rw [show (0 : Int32) = nI 0 from rfl, nI_ltI (by omega) (by omega)]; omega) ?_
  show mjGo _ _ 86 _ _
  refine mjGo.run 1 (pc' := 87) (F' := ([some (.ref 43), some (.int (nI e1)), some (.int (nI i)), some (.int (nI e2)), some (.int (nI j)), some (.int (nI n)), none], [.int (nI i)], mjH I X)) (fun _ => rfl) ?_
  refine mjGo.run 1 (pc' := (bif decide ((nI i) < 0) then 122 else 90)) (F' := ([some (.ref 43), some (.int (nI e1)), some (.int (nI i)), some (.int (nI e2)), some (.int (nI j)), some (.int (nI n)), none], [], mjH I X)) (fun _ => rfl) ?_
  refine mjGo.brF (show ¬ (nI i) < 0 by rw [show (0 : Int32) = nI 0 from rfl, nI_ltI (by omega) (by omega)]; omega) ?_
  show mjGo _ _ 90 _ _
  refine mjGo.run 1 (pc' := 92) (F' := ([some (.ref 43), some (.int (nI e1)), some (.int (nI i)), some (.int (nI e2)), some (.int (nI j)), some (.int (nI n)), none], [.int (nI j)], mjH I X)) (fun _ => rfl) ?_
  refine mjGo.run 1 (pc' := (bif decide ((nI j) < 0) then 122 else 95)) (F' := ([some (.ref 43), some (.int (nI e1)), some (.int (nI i)), some (.int (nI e2)), some (.int (nI j)), some (.int (nI n)), none], [], mjH I X)) (fun _ => rfl) ?_
  refine mjGo.brF (show ¬ (nI j) < 0 by rw [show (0 : Int32) = nI 0 from rfl, nI_ltI (by omega) (by omega)]; omega) ?_
  show mjGo _ _ 95 _ _
  refine mjGo.run 4 (pc' := 102) (F' := ([some (.ref 43), some (.int (nI e1)), some (.int (nI i)), some (.int (nI e2)), some (.int (nI j)), some (.int (nI n)), none], [.int (nI e1), .ref 68, .int (nI n)], mjH I X)) (fun _ => rfl) ?_
  refine mjGo.op (pc' := 103) (F' := ([some (.ref 43), some (.int (nI e1)), some (.int (nI i)), some (.int (nI e2)), some (.int (nI j)), some (.int (nI n)), none], [.int (I 68 e1), .int (nI n)], mjH I X)) (o := mjiald 103) rfl (fun _ => mjald_n (n := 8) (by omega) (by decide) (rfl) (rfl)) ?_
  refine mjGo.run 2 (pc' := 105) (F' := ([some (.ref 43), some (.int (nI e1)), some (.int (nI i)), some (.int (nI e2)), some (.int (nI j)), some (.int (nI n)), none], [.int ((I 68 e1) - (nI i)), .int (nI n)], mjH I X)) (fun _ => rfl) ?_
  refine mjGo.run 1 (pc' := (bif decide (((I 68 e1) - (nI i)) < (nI n)) then 122 else 108)) (F' := ([some (.ref 43), some (.int (nI e1)), some (.int (nI i)), some (.int (nI e2)), some (.int (nI j)), some (.int (nI n)), none], [], mjH I X)) (fun _ => rfl) ?_
  refine mjGo.brF (by rw [hz1, show (nI sz1 - nI i : Int32) = nI (sz1 - i) from nI_subN (by omega) (by omega), nI_ltI (by omega) (by omega)]; omega) ?_
  show mjGo _ _ 108 _ _
  refine mjGo.run 4 (pc' := 115) (F' := ([some (.ref 43), some (.int (nI e1)), some (.int (nI i)), some (.int (nI e2)), some (.int (nI j)), some (.int (nI n)), none], [.int (nI e2), .ref 68, .int (nI n)], mjH I X)) (fun _ => rfl) ?_
  refine mjGo.op (pc' := 116) (F' := ([some (.ref 43), some (.int (nI e1)), some (.int (nI i)), some (.int (nI e2)), some (.int (nI j)), some (.int (nI n)), none], [.int (I 68 e2), .int (nI n)], mjH I X)) (o := mjiald 116) rfl (fun _ => mjald_n (n := 8) (by omega) (by decide) (rfl) (rfl)) ?_
  refine mjGo.run 2 (pc' := 119) (F' := ([some (.ref 43), some (.int (nI e1)), some (.int (nI i)), some (.int (nI e2)), some (.int (nI j)), some (.int (nI n)), none], [.int ((I 68 e2) - (nI j)), .int (nI n)], mjH I X)) (fun _ => rfl) ?_
  refine mjGo.run 1 (pc' := (bif decide ((nI n) ≤ ((I 68 e2) - (nI j))) then 125 else 122)) (F' := ([some (.ref 43), some (.int (nI e1)), some (.int (nI i)), some (.int (nI e2)), some (.int (nI j)), some (.int (nI n)), none], [], mjH I X)) (fun _ => rfl) ?_
  refine mjGo.brT (by rw [hz2, show (nI sz2 - nI j : Int32) = nI (sz2 - j) from nI_subN (by omega) (by omega), nI_leI (by omega) (by omega)]; omega) ?_
  show mjGo _ _ 125 _ _
  refine mjGo.run 2 (pc' := 128) (F' := ([some (.ref 43), some (.int (nI e1)), some (.int (nI i)), some (.int (nI e2)), some (.int (nI j)), some (.int (nI n)), some (.int 0)], [], mjH I X)) (fun _ => rfl) ?_
  have k9 := m_cp_l1 (d := d + 4) (I := I) (X := X) he1 he2 (show i + n ≤ 100 by omega) (show j + n ≤ 100 by omega) n 0 (by omega)
  rw [cpy_0, mjR_id] at k9
  exact k9
