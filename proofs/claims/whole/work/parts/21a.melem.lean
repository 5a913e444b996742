/-! element and toss: the reference -/
theorem c_mElA (d : Nat) {p q : Int32} {I : Nat → Nat → Int32} {X : MX} (hs : mIn p 0 7 = 0) : mjEv (d + 3) nyX12_element [.ref 43, .int p, .int q] (mjH I X) (.inl (some (.long 0))) (mjH (mjU I 43 40 1) X) := by
  refine mjEv.of ?_
  show mjGo (d + 3) nyX12_element 0 ([some (.ref 43), some (.int p), some (.int q)], [], mjH I X) _
  refine mjGo.run 4 (pc' := 5) (F' := ([some (.ref 43), some (.int p), some (.int q)], [.int 7, .int 0, .int p, .ref 43], mjH I X)) (fun _ => rfl) ?_
  refine mjGo.call (n := 3) (j := 132) (nx := 8) (o := some (.int 0)) (h' := mjH I X) (fun _ => rfl) ((by have q9 := c_mIn (d + 2) p 0 7 (mjH I X); rw [hs] at q9; exact q9)) ?_
  show mjGo _ _ 8 ([some (.ref 43), some (.int p), some (.int q)], [.int 0, .ref 43], mjH I X) _
  exact mjGo.ret 12 (fun _ => rfl) rfl
theorem c_mElB (d : Nat) {e : Nat} {q : Int32} {I : Nat → Nat → Int32} {X : MX} (he : e < 8) (hh : ¬ I 66 e = 2) : mjEv (d + 3) nyX12_element [.ref 43, .int (nI e), .int q] (mjH I X) (.inl (some (.long 0))) (mjH (mjU (mjU I 43 40 0) 43 40 2) X) := by
  refine mjEv.of ?_
  show mjGo (d + 3) nyX12_element 0 ([some (.ref 43), some (.int (nI e)), some (.int q)], [], mjH I X) _
  refine mjGo.run 4 (pc' := 5) (F' := ([some (.ref 43), some (.int (nI e)), some (.int q)], [.int 7, .int 0, .int (nI e), .ref 43], mjH I X)) (fun _ => rfl) ?_
  refine mjGo.call (n := 3) (j := 132) (nx := 8) (o := some (.int 1)) (h' := mjH I X) (fun _ => rfl) ((by have q9 := c_mIn (d + 2) (nI e) 0 7 (mjH I X); rw [mShelf_1 he] at q9; exact q9)) ?_
  show mjGo _ _ 8 ([some (.ref 43), some (.int (nI e)), some (.int q)], [.int 1, .ref 43], mjH I X) _
  refine mjGo.run 9 (pc' := 31) (F' := ([some (.ref 43), some (.int (nI e)), some (.int q)], [.int (nI e), .ref 66], mjH (mjU I 43 40 0) X)) (fun _ => rfl) ?_
  refine mjGo.op (pc' := 32) (F' := ([some (.ref 43), some (.int (nI e)), some (.int q)], [.int (I 66 e)], mjH (mjU I 43 40 0) X)) (o := mjiald 32) rfl (fun _ => mjald_n (n := 8) (by omega) (by decide) (rfl) (rfl)) ?_
  refine mjGo.run 1 (pc' := 33) (F' := ([some (.ref 43), some (.int (nI e)), some (.int q)], [.int 2, .int (I 66 e)], mjH (mjU I 43 40 0) X)) (fun _ => rfl) ?_
  refine mjGo.run 1 (pc' := (bif decide ((I 66 e) ≠ 2) then 52 else 36)) (F' := ([some (.ref 43), some (.int (nI e)), some (.int q)], [], mjH (mjU I 43 40 0) X)) (fun _ => rfl) ?_
  refine mjGo.brT (hh) ?_
  show mjGo _ _ 52 _ _
  exact mjGo.ret 8 (fun _ => rfl) rfl
theorem c_mElC (d : Nat) {e sz : Nat} {q : Int32} {I : Nat → Nat → Int32} {X : MX} (he : e < 8) (hh : I 66 e = 2) (hz : I 68 e = nI sz) (hv : mIn q 0 (nI sz - 1) = 0) : mjEv (d + 3) nyX12_element [.ref 43, .int (nI e), .int q] (mjH I X) (.inl (some (.long 0))) (mjH (mjU (mjU I 43 40 0) 43 40 2) X) := by
  refine mjEv.of ?_
  show mjGo (d + 3) nyX12_element 0 ([some (.ref 43), some (.int (nI e)), some (.int q)], [], mjH I X) _
  refine mjGo.run 4 (pc' := 5) (F' := ([some (.ref 43), some (.int (nI e)), some (.int q)], [.int 7, .int 0, .int (nI e), .ref 43], mjH I X)) (fun _ => rfl) ?_
  refine mjGo.call (n := 3) (j := 132) (nx := 8) (o := some (.int 1)) (h' := mjH I X) (fun _ => rfl) ((by have q9 := c_mIn (d + 2) (nI e) 0 7 (mjH I X); rw [mShelf_1 he] at q9; exact q9)) ?_
  show mjGo _ _ 8 ([some (.ref 43), some (.int (nI e)), some (.int q)], [.int 1, .ref 43], mjH I X) _
  refine mjGo.run 9 (pc' := 31) (F' := ([some (.ref 43), some (.int (nI e)), some (.int q)], [.int (nI e), .ref 66], mjH (mjU I 43 40 0) X)) (fun _ => rfl) ?_
  refine mjGo.op (pc' := 32) (F' := ([some (.ref 43), some (.int (nI e)), some (.int q)], [.int (I 66 e)], mjH (mjU I 43 40 0) X)) (o := mjiald 32) rfl (fun _ => mjald_n (n := 8) (by omega) (by decide) (rfl) (rfl)) ?_
  refine mjGo.run 0 (pc' := 32) (F' := ([some (.ref 43), some (.int (nI e)), some (.int q)], [.int (I 66 e)], mjH (mjU I 43 40 0) X)) (fun _ => rfl) ?_
  rw [show (I 66 e) = 2 from hh]
  refine mjGo.run 7 (pc' := 43) (F' := ([some (.ref 43), some (.int (nI e)), some (.int q)], [.int (nI e), .ref 68, .int 0, .int q], mjH (mjU I 43 40 0) X)) (fun _ => rfl) ?_
  refine mjGo.op (pc' := 44) (F' := ([some (.ref 43), some (.int (nI e)), some (.int q)], [.int (I 68 e), .int 0, .int q], mjH (mjU I 43 40 0) X)) (o := mjiald 44) rfl (fun _ => mjald_n (n := 8) (by omega) (by decide) (rfl) (rfl)) ?_
  refine mjGo.run 2 (pc' := 46) (F' := ([some (.ref 43), some (.int (nI e)), some (.int q)], [.int ((I 68 e) - 1), .int 0, .int q], mjH (mjU I 43 40 0) X)) (fun _ => rfl) ?_
  refine mjGo.call (n := 3) (j := 132) (nx := 49) (o := some (.int 0)) (h' := mjH (mjU I 43 40 0) X) (fun _ => rfl) ((by have q9 := c_mIn (d + 2) q 0 ((I 68 e) - 1) (mjH (mjU I 43 40 0) X); rw [show mIn q 0 (I 68 e - 1) = 0 from (by rw [hz]; exact hv)] at q9; exact q9)) ?_
  show mjGo _ _ 49 ([some (.ref 43), some (.int (nI e)), some (.int q)], [.int 0], mjH (mjU I 43 40 0) X) _
  exact mjGo.ret 9 (fun _ => rfl) rfl
theorem c_mElD (d : Nat) {e sz j : Nat} {I : Nat → Nat → Int32} {X : MX} (he : e < 8) (hh : I 66 e = 2) (hz : I 68 e = nI sz) (hs : sz ≤ 100) (hj : j < sz) : mjEv (d + 3) nyX12_element [.ref 43, .int (nI e), .int (nI j)] (mjH I X) (.inl (some (.long (I 69 (100 * e + j)).toInt64))) (mjH (mjU I 43 40 0) X) := by
  refine mjEv.of ?_
  show mjGo (d + 3) nyX12_element 0 ([some (.ref 43), some (.int (nI e)), some (.int (nI j))], [], mjH I X) _
  refine mjGo.run 4 (pc' := 5) (F' := ([some (.ref 43), some (.int (nI e)), some (.int (nI j))], [.int 7, .int 0, .int (nI e), .ref 43], mjH I X)) (fun _ => rfl) ?_
  refine mjGo.call (n := 3) (j := 132) (nx := 8) (o := some (.int 1)) (h' := mjH I X) (fun _ => rfl) ((by have q9 := c_mIn (d + 2) (nI e) 0 7 (mjH I X); rw [mShelf_1 he] at q9; exact q9)) ?_
  show mjGo _ _ 8 ([some (.ref 43), some (.int (nI e)), some (.int (nI j))], [.int 1, .ref 43], mjH I X) _
  refine mjGo.run 9 (pc' := 31) (F' := ([some (.ref 43), some (.int (nI e)), some (.int (nI j))], [.int (nI e), .ref 66], mjH (mjU I 43 40 0) X)) (fun _ => rfl) ?_
  refine mjGo.op (pc' := 32) (F' := ([some (.ref 43), some (.int (nI e)), some (.int (nI j))], [.int (I 66 e)], mjH (mjU I 43 40 0) X)) (o := mjiald 32) rfl (fun _ => mjald_n (n := 8) (by omega) (by decide) (rfl) (rfl)) ?_
  refine mjGo.run 0 (pc' := 32) (F' := ([some (.ref 43), some (.int (nI e)), some (.int (nI j))], [.int (I 66 e)], mjH (mjU I 43 40 0) X)) (fun _ => rfl) ?_
  rw [show (I 66 e) = 2 from hh]
  refine mjGo.run 7 (pc' := 43) (F' := ([some (.ref 43), some (.int (nI e)), some (.int (nI j))], [.int (nI e), .ref 68, .int 0, .int (nI j)], mjH (mjU I 43 40 0) X)) (fun _ => rfl) ?_
  refine mjGo.op (pc' := 44) (F' := ([some (.ref 43), some (.int (nI e)), some (.int (nI j))], [.int (I 68 e), .int 0, .int (nI j)], mjH (mjU I 43 40 0) X)) (o := mjiald 44) rfl (fun _ => mjald_n (n := 8) (by omega) (by decide) (rfl) (rfl)) ?_
  refine mjGo.run 2 (pc' := 46) (F' := ([some (.ref 43), some (.int (nI e)), some (.int (nI j))], [.int ((I 68 e) - 1), .int 0, .int (nI j)], mjH (mjU I 43 40 0) X)) (fun _ => rfl) ?_
  refine mjGo.call (n := 3) (j := 132) (nx := 49) (o := some (.int 1)) (h' := mjH (mjU I 43 40 0) X) (fun _ => rfl) ((by have q9 := c_mIn (d + 2) (nI j) 0 ((I 68 e) - 1) (mjH (mjU I 43 40 0) X); rw [show mIn (nI j) 0 (I 68 e - 1) = 1 from (by rw [hz]; exact mIn_yes hj (by omega))] at q9; exact q9)) ?_
  show mjGo _ _ 49 ([some (.ref 43), some (.int (nI e)), some (.int (nI j))], [.int 1], mjH (mjU I 43 40 0) X) _
  refine mjGo.run 11 (pc' := 74) (F' := ([some (.ref 43), some (.int (nI e)), some (.int (nI j))], [.int ((100 * (nI e)) + (nI j)), .ref 69], mjH (mjU I 43 40 0) X)) (fun _ => rfl) ?_
  refine mjGo.run 0 (pc' := 74) (F' := ([some (.ref 43), some (.int (nI e)), some (.int (nI j))], [.int ((100 * (nI e)) + (nI j)), .ref 69], mjH (mjU I 43 40 0) X)) (fun _ => rfl) ?_
  rw [show ((100 * (nI e)) + (nI j)) = (nI (100 * e + j)) from idx_eq]
  refine mjGo.op (pc' := 75) (F' := ([some (.ref 43), some (.int (nI e)), some (.int (nI j))], [.int (I 69 (100 * e + j))], mjH (mjU I 43 40 0) X)) (o := mjiald 75) rfl (fun _ => mjald_n (n := 800) (by omega) (by decide) (rfl) (rfl)) ?_
  exact mjGo.ret 3 (fun _ => rfl) rfl
theorem c_mThr (d : Nat) {I : Nat → Nat → Int32} {X : MX} : mjEv d nyX12_thrown [.ref 43] (mjH I X) (.inl (some (.int (I 43 40)))) (mjH I X) := ⟨5, rfl⟩
theorem c_mTsA (d : Nat) {p : Int32} {I : Nat → Nat → Int32} {X : MX} (hs : mIn p 0 7 = 0) : mjEv (d + 3) nyX12_toss [.ref 43, .int p] (mjH I X) (.inl (some (.int (-1)))) (mjH I X) := by
  refine mjEv.of ?_
  show mjGo (d + 3) nyX12_toss 0 ([some (.ref 43), some (.int p)], [], mjH I X) _
  refine mjGo.run 3 (pc' := 4) (F' := ([some (.ref 43), some (.int p)], [.int 7, .int 0, .int p], mjH I X)) (fun _ => rfl) ?_
  refine mjGo.call (n := 3) (j := 132) (nx := 7) (o := some (.int 0)) (h' := mjH I X) (fun _ => rfl) ((by have q9 := c_mIn (d + 2) p 0 7 (mjH I X); rw [hs] at q9; exact q9)) ?_
  show mjGo _ _ 7 ([some (.ref 43), some (.int p)], [.int 0], mjH I X) _
  exact mjGo.ret 3 (fun _ => rfl) rfl
theorem c_mTsB (d : Nat) {e : Nat} {I : Nat → Nat → Int32} {X : MX} (he : e < 8) (hh : I 66 e = 0) : mjEv (d + 3) nyX12_toss [.ref 43, .int (nI e)] (mjH I X) (.inl (some (.int (-11)))) (mjH I X) := by
  refine mjEv.of ?_
  show mjGo (d + 3) nyX12_toss 0 ([some (.ref 43), some (.int (nI e))], [], mjH I X) _
  refine mjGo.run 3 (pc' := 4) (F' := ([some (.ref 43), some (.int (nI e))], [.int 7, .int 0, .int (nI e)], mjH I X)) (fun _ => rfl) ?_
  refine mjGo.call (n := 3) (j := 132) (nx := 7) (o := some (.int 1)) (h' := mjH I X) (fun _ => rfl) ((by have q9 := c_mIn (d + 2) (nI e) 0 7 (mjH I X); rw [mShelf_1 he] at q9; exact q9)) ?_
  show mjGo _ _ 7 ([some (.ref 43), some (.int (nI e))], [.int 1], mjH I X) _
  refine mjGo.run 4 (pc' := 17) (F' := ([some (.ref 43), some (.int (nI e))], [.int (nI e), .ref 66], mjH I X)) (fun _ => rfl) ?_
  refine mjGo.op (pc' := 18) (F' := ([some (.ref 43), some (.int (nI e))], [.int (I 66 e)], mjH I X)) (o := mjiald 18) rfl (fun _ => mjald_n (n := 8) (by omega) (by decide) (rfl) (rfl)) ?_
  refine mjGo.run 0 (pc' := 18) (F' := ([some (.ref 43), some (.int (nI e))], [.int (I 66 e)], mjH I X)) (fun _ => rfl) ?_
  rw [show (I 66 e) = 0 from hh]
  refine mjGo.run 5 (pc' := 27) (F' := ([some (.ref 43), some (.int (nI e))], [.int (nI e), .ref 66], mjH I X)) (fun _ => rfl) ?_
  refine mjGo.op (pc' := 28) (F' := ([some (.ref 43), some (.int (nI e))], [.int (I 66 e)], mjH I X)) (o := mjiald 28) rfl (fun _ => mjald_n (n := 8) (by omega) (by decide) (rfl) (rfl)) ?_
  refine mjGo.run 0 (pc' := 28) (F' := ([some (.ref 43), some (.int (nI e))], [.int (I 66 e)], mjH I X)) (fun _ => rfl) ?_
  rw [show (I 66 e) = 0 from hh]
  exact mjGo.ret 4 (fun _ => rfl) rfl
theorem c_mTsC (d : Nat) {e : Nat} {I : Nat → Nat → Int32} {X : MX} (he : e < 8) (hh : I 66 e = 2) : mjEv (d + 3) nyX12_toss [.ref 43, .int (nI e)] (mjH I X) (.inl (some (.int (-12)))) (mjH I X) := by
  refine mjEv.of ?_
  show mjGo (d + 3) nyX12_toss 0 ([some (.ref 43), some (.int (nI e))], [], mjH I X) _
  refine mjGo.run 3 (pc' := 4) (F' := ([some (.ref 43), some (.int (nI e))], [.int 7, .int 0, .int (nI e)], mjH I X)) (fun _ => rfl) ?_
  refine mjGo.call (n := 3) (j := 132) (nx := 7) (o := some (.int 1)) (h' := mjH I X) (fun _ => rfl) ((by have q9 := c_mIn (d + 2) (nI e) 0 7 (mjH I X); rw [mShelf_1 he] at q9; exact q9)) ?_
  show mjGo _ _ 7 ([some (.ref 43), some (.int (nI e))], [.int 1], mjH I X) _
  refine mjGo.run 4 (pc' := 17) (F' := ([some (.ref 43), some (.int (nI e))], [.int (nI e), .ref 66], mjH I X)) (fun _ => rfl) ?_
  refine mjGo.op (pc' := 18) (F' := ([some (.ref 43), some (.int (nI e))], [.int (I 66 e)], mjH I X)) (o := mjiald 18) rfl (fun _ => mjald_n (n := 8) (by omega) (by decide) (rfl) (rfl)) ?_
  refine mjGo.run 0 (pc' := 18) (F' := ([some (.ref 43), some (.int (nI e))], [.int (I 66 e)], mjH I X)) (fun _ => rfl) ?_
  rw [show (I 66 e) = 2 from hh]
  refine mjGo.run 5 (pc' := 27) (F' := ([some (.ref 43), some (.int (nI e))], [.int (nI e), .ref 66], mjH I X)) (fun _ => rfl) ?_
  refine mjGo.op (pc' := 28) (F' := ([some (.ref 43), some (.int (nI e))], [.int (I 66 e)], mjH I X)) (o := mjiald 28) rfl (fun _ => mjald_n (n := 8) (by omega) (by decide) (rfl) (rfl)) ?_
  refine mjGo.run 0 (pc' := 28) (F' := ([some (.ref 43), some (.int (nI e))], [.int (I 66 e)], mjH I X)) (fun _ => rfl) ?_
  rw [show (I 66 e) = 2 from hh]
  exact mjGo.ret 3 (fun _ => rfl) rfl
theorem c_mTsD (d : Nat) {e kd : Nat} {I : Nat → Nat → Int32} {X : MX} (he : e < 8) (hh : I 66 e = 1) (hk : I 72 e = nI kd) (hkd : kd < 8) (h6 : kd = 6) : mjEv (d + 3) nyX12_toss [.ref 43, .int (nI e)] (mjH I X) (.inl (some (.int (-15)))) (mjH I X) := by
  refine mjEv.of ?_
  show mjGo (d + 3) nyX12_toss 0 ([some (.ref 43), some (.int (nI e))], [], mjH I X) _
  refine mjGo.run 3 (pc' := 4) (F' := ([some (.ref 43), some (.int (nI e))], [.int 7, .int 0, .int (nI e)], mjH I X)) (fun _ => rfl) ?_
  refine mjGo.call (n := 3) (j := 132) (nx := 7) (o := some (.int 1)) (h' := mjH I X) (fun _ => rfl) ((by have q9 := c_mIn (d + 2) (nI e) 0 7 (mjH I X); rw [mShelf_1 he] at q9; exact q9)) ?_
  show mjGo _ _ 7 ([some (.ref 43), some (.int (nI e))], [.int 1], mjH I X) _
  refine mjGo.run 4 (pc' := 17) (F' := ([some (.ref 43), some (.int (nI e))], [.int (nI e), .ref 66], mjH I X)) (fun _ => rfl) ?_
  refine mjGo.op (pc' := 18) (F' := ([some (.ref 43), some (.int (nI e))], [.int (I 66 e)], mjH I X)) (o := mjiald 18) rfl (fun _ => mjald_n (n := 8) (by omega) (by decide) (rfl) (rfl)) ?_
  refine mjGo.run 0 (pc' := 18) (F' := ([some (.ref 43), some (.int (nI e))], [.int (I 66 e)], mjH I X)) (fun _ => rfl) ?_
  rw [show (I 66 e) = 1 from hh]
  refine mjGo.run 5 (pc' := 44) (F' := ([some (.ref 43), some (.int (nI e))], [.int (nI e), .ref 72], mjH I X)) (fun _ => rfl) ?_
  refine mjGo.op (pc' := 45) (F' := ([some (.ref 43), some (.int (nI e))], [.int (I 72 e)], mjH I X)) (o := mjiald 45) rfl (fun _ => mjald_n (n := 8) (by omega) (by decide) (rfl) (rfl)) ?_
  refine mjGo.run 0 (pc' := 45) (F' := ([some (.ref 43), some (.int (nI e))], [.int (I 72 e)], mjH I X)) (fun _ => rfl) ?_
  rw [show (I 72 e) = (nI kd) from hk]
  refine mjGo.run 1 (pc' := 47) (F' := ([some (.ref 43), some (.int (nI e))], [.int 6, .int (nI kd)], mjH I X)) (fun _ => rfl) ?_
  refine mjGo.run 1 (pc' := (bif decide ((nI kd) = 6) then 59 else 50)) (F' := ([some (.ref 43), some (.int (nI e))], [], mjH I X)) (fun _ => rfl) ?_
  refine mjGo.brT (by rw [show (6 : Int32) = nI 6 from rfl, nI_eq (by omega) (by omega)]; omega) ?_
  show mjGo _ _ 59 _ _
  exact mjGo.ret 2 (fun _ => rfl) rfl
theorem c_mTsE (d : Nat) {e kd : Nat} {I : Nat → Nat → Int32} {X : MX} (he : e < 8) (hh : I 66 e = 1) (hk : I 72 e = nI kd) (hkd : kd < 8) (h6 : kd ≠ 6) (h0 : I 73 e = 0) : mjEv (d + 3) nyX12_toss [.ref 43, .int (nI e)] (mjH I X) (.inl (some (.int (-15)))) (mjH I X) := by
  refine mjEv.of ?_
  show mjGo (d + 3) nyX12_toss 0 ([some (.ref 43), some (.int (nI e))], [], mjH I X) _
  refine mjGo.run 3 (pc' := 4) (F' := ([some (.ref 43), some (.int (nI e))], [.int 7, .int 0, .int (nI e)], mjH I X)) (fun _ => rfl) ?_
  refine mjGo.call (n := 3) (j := 132) (nx := 7) (o := some (.int 1)) (h' := mjH I X) (fun _ => rfl) ((by have q9 := c_mIn (d + 2) (nI e) 0 7 (mjH I X); rw [mShelf_1 he] at q9; exact q9)) ?_
  show mjGo _ _ 7 ([some (.ref 43), some (.int (nI e))], [.int 1], mjH I X) _
  refine mjGo.run 4 (pc' := 17) (F' := ([some (.ref 43), some (.int (nI e))], [.int (nI e), .ref 66], mjH I X)) (fun _ => rfl) ?_
  refine mjGo.op (pc' := 18) (F' := ([some (.ref 43), some (.int (nI e))], [.int (I 66 e)], mjH I X)) (o := mjiald 18) rfl (fun _ => mjald_n (n := 8) (by omega) (by decide) (rfl) (rfl)) ?_
  refine mjGo.run 0 (pc' := 18) (F' := ([some (.ref 43), some (.int (nI e))], [.int (I 66 e)], mjH I X)) (fun _ => rfl) ?_
  rw [show (I 66 e) = 1 from hh]
  refine mjGo.run 5 (pc' := 44) (F' := ([some (.ref 43), some (.int (nI e))], [.int (nI e), .ref 72], mjH I X)) (fun _ => rfl) ?_
  refine mjGo.op (pc' := 45) (F' := ([some (.ref 43), some (.int (nI e))], [.int (I 72 e)], mjH I X)) (o := mjiald 45) rfl (fun _ => mjald_n (n := 8) (by omega) (by decide) (rfl) (rfl)) ?_
  refine mjGo.run 0 (pc' := 45) (F' := ([some (.ref 43), some (.int (nI e))], [.int (I 72 e)], mjH I X)) (fun _ => rfl) ?_
  rw [show (I 72 e) = (nI kd) from hk]
  refine mjGo.run 1 (pc' := 47) (F' := ([some (.ref 43), some (.int (nI e))], [.int 6, .int (nI kd)], mjH I X)) (fun _ => rfl) ?_
  refine mjGo.run 1 (pc' := (bif decide ((nI kd) = 6) then 59 else 50)) (F' := ([some (.ref 43), some (.int (nI e))], [], mjH I X)) (fun _ => rfl) ?_
  refine mjGo.brF (by rw [show (6 : Int32) = nI 6 from rfl, nI_eq (by omega) (by omega)]; omega) ?_
  show mjGo _ _ 50 _ _
  refine mjGo.run 3 (pc' := 55) (F' := ([some (.ref 43), some (.int (nI e))], [.int (nI e), .ref 73], mjH I X)) (fun _ => rfl) ?_
  refine mjGo.op (pc' := 56) (F' := ([some (.ref 43), some (.int (nI e))], [.int (I 73 e)], mjH I X)) (o := mjiald 56) rfl (fun _ => mjald_n (n := 8) (by omega) (by decide) (rfl) (rfl)) ?_
  refine mjGo.run 1 (pc' := (bif decide ((I 73 e) ≠ 0) then 62 else 59)) (F' := ([some (.ref 43), some (.int (nI e))], [], mjH I X)) (fun _ => rfl) ?_
  refine mjGo.brF (by rw [h0]; decide) ?_
  show mjGo _ _ 59 _ _
  exact mjGo.ret 2 (fun _ => rfl) rfl
theorem c_mTsF (d : Nat) {e kd : Nat} {I : Nat → Nat → Int32} {X : MX} (he : e < 8) (hh : I 66 e = 1) (hk : I 72 e = nI kd) (hkd : kd < 8) (h6 : kd ≠ 6) (h0 : I 73 e ≠ 0) (h4 : kd = 4) : mjEv (d + 3) nyX12_toss [.ref 43, .int (nI e)] (mjH I X) (.inl (some (.int (100 + I 71 e)))) (mjH I X) := by
  refine mjEv.of ?_
  show mjGo (d + 3) nyX12_toss 0 ([some (.ref 43), some (.int (nI e))], [], mjH I X) _
  refine mjGo.run 3 (pc' := 4) (F' := ([some (.ref 43), some (.int (nI e))], [.int 7, .int 0, .int (nI e)], mjH I X)) (fun _ => rfl) ?_
  refine mjGo.call (n := 3) (j := 132) (nx := 7) (o := some (.int 1)) (h' := mjH I X) (fun _ => rfl) ((by have q9 := c_mIn (d + 2) (nI e) 0 7 (mjH I X); rw [mShelf_1 he] at q9; exact q9)) ?_
  show mjGo _ _ 7 ([some (.ref 43), some (.int (nI e))], [.int 1], mjH I X) _
  refine mjGo.run 4 (pc' := 17) (F' := ([some (.ref 43), some (.int (nI e))], [.int (nI e), .ref 66], mjH I X)) (fun _ => rfl) ?_
  refine mjGo.op (pc' := 18) (F' := ([some (.ref 43), some (.int (nI e))], [.int (I 66 e)], mjH I X)) (o := mjiald 18) rfl (fun _ => mjald_n (n := 8) (by omega) (by decide) (rfl) (rfl)) ?_
  refine mjGo.run 0 (pc' := 18) (F' := ([some (.ref 43), some (.int (nI e))], [.int (I 66 e)], mjH I X)) (fun _ => rfl) ?_
  rw [show (I 66 e) = 1 from hh]
  refine mjGo.run 5 (pc' := 44) (F' := ([some (.ref 43), some (.int (nI e))], [.int (nI e), .ref 72], mjH I X)) (fun _ => rfl) ?_
  refine mjGo.op (pc' := 45) (F' := ([some (.ref 43), some (.int (nI e))], [.int (I 72 e)], mjH I X)) (o := mjiald 45) rfl (fun _ => mjald_n (n := 8) (by omega) (by decide) (rfl) (rfl)) ?_
  refine mjGo.run 0 (pc' := 45) (F' := ([some (.ref 43), some (.int (nI e))], [.int (I 72 e)], mjH I X)) (fun _ => rfl) ?_
  rw [show (I 72 e) = (nI kd) from hk]
  refine mjGo.run 1 (pc' := 47) (F' := ([some (.ref 43), some (.int (nI e))], [.int 6, .int (nI kd)], mjH I X)) (fun _ => rfl) ?_
  refine mjGo.run 1 (pc' := (bif decide ((nI kd) = 6) then 59 else 50)) (F' := ([some (.ref 43), some (.int (nI e))], [], mjH I X)) (fun _ => rfl) ?_
  refine mjGo.brF (by rw [show (6 : Int32) = nI 6 from rfl, nI_eq (by omega) (by omega)]; omega) ?_
  show mjGo _ _ 50 _ _
  refine mjGo.run 3 (pc' := 55) (F' := ([some (.ref 43), some (.int (nI e))], [.int (nI e), .ref 73], mjH I X)) (fun _ => rfl) ?_
  refine mjGo.op (pc' := 56) (F' := ([some (.ref 43), some (.int (nI e))], [.int (I 73 e)], mjH I X)) (o := mjiald 56) rfl (fun _ => mjald_n (n := 8) (by omega) (by decide) (rfl) (rfl)) ?_
  refine mjGo.run 1 (pc' := (bif decide ((I 73 e) ≠ 0) then 62 else 59)) (F' := ([some (.ref 43), some (.int (nI e))], [], mjH I X)) (fun _ => rfl) ?_
  refine mjGo.brT (h0) ?_
  show mjGo _ _ 62 _ _
  refine mjGo.run 3 (pc' := 67) (F' := ([some (.ref 43), some (.int (nI e))], [.int (nI e), .ref 72], mjH I X)) (fun _ => rfl) ?_
  refine mjGo.op (pc' := 68) (F' := ([some (.ref 43), some (.int (nI e))], [.int (I 72 e)], mjH I X)) (o := mjiald 68) rfl (fun _ => mjald_n (n := 8) (by omega) (by decide) (rfl) (rfl)) ?_
  refine mjGo.run 0 (pc' := 68) (F' := ([some (.ref 43), some (.int (nI e))], [.int (I 72 e)], mjH I X)) (fun _ => rfl) ?_
  rw [show (I 72 e) = (nI kd) from hk]
  refine mjGo.run 1 (pc' := 69) (F' := ([some (.ref 43), some (.int (nI e))], [.int 4, .int (nI kd)], mjH I X)) (fun _ => rfl) ?_
  refine mjGo.run 1 (pc' := (bif decide ((nI kd) ≠ 4) then 84 else 72)) (F' := ([some (.ref 43), some (.int (nI e))], [], mjH I X)) (fun _ => rfl) ?_
  refine mjGo.brF (by rw [show (4 : Int32) = nI 4 from rfl, ne_eq, nI_eq (by omega) (by omega)]; omega) ?_
  show mjGo _ _ 72 _ _
  refine mjGo.run 4 (pc' := 79) (F' := ([some (.ref 43), some (.int (nI e))], [.int (nI e), .ref 71, .int 100], mjH I X)) (fun _ => rfl) ?_
  refine mjGo.op (pc' := 80) (F' := ([some (.ref 43), some (.int (nI e))], [.int (I 71 e), .int 100], mjH I X)) (o := mjiald 80) rfl (fun _ => mjald_n (n := 8) (by omega) (by decide) (rfl) (rfl)) ?_
  exact mjGo.ret 3 (fun _ => rfl) rfl
theorem c_mTsG (d : Nat) {e kd : Nat} {I : Nat → Nat → Int32} {X : MX} (he : e < 8) (hh : I 66 e = 1) (hk : I 72 e = nI kd) (hkd : kd < 8) (h6 : kd ≠ 6) (h0 : I 73 e ≠ 0) (h4 : kd = 7) : mjEv (d + 3) nyX12_toss [.ref 43, .int (nI e)] (mjH I X) (.inl (some (.int (200 + mSkO I e)))) (mjH I X) := by
  refine mjEv.of ?_
  show mjGo (d + 3) nyX12_toss 0 ([some (.ref 43), some (.int (nI e))], [], mjH I X) _
  refine mjGo.run 3 (pc' := 4) (F' := ([some (.ref 43), some (.int (nI e))], [.int 7, .int 0, .int (nI e)], mjH I X)) (fun _ => rfl) ?_
  refine mjGo.call (n := 3) (j := 132) (nx := 7) (o := some (.int 1)) (h' := mjH I X) (fun _ => rfl) ((by have q9 := c_mIn (d + 2) (nI e) 0 7 (mjH I X); rw [mShelf_1 he] at q9; exact q9)) ?_
  show mjGo _ _ 7 ([some (.ref 43), some (.int (nI e))], [.int 1], mjH I X) _
  refine mjGo.run 4 (pc' := 17) (F' := ([some (.ref 43), some (.int (nI e))], [.int (nI e), .ref 66], mjH I X)) (fun _ => rfl) ?_
  refine mjGo.op (pc' := 18) (F' := ([some (.ref 43), some (.int (nI e))], [.int (I 66 e)], mjH I X)) (o := mjiald 18) rfl (fun _ => mjald_n (n := 8) (by omega) (by decide) (rfl) (rfl)) ?_
  refine mjGo.run 0 (pc' := 18) (F' := ([some (.ref 43), some (.int (nI e))], [.int (I 66 e)], mjH I X)) (fun _ => rfl) ?_
  rw [show (I 66 e) = 1 from hh]
  refine mjGo.run 5 (pc' := 44) (F' := ([some (.ref 43), some (.int (nI e))], [.int (nI e), .ref 72], mjH I X)) (fun _ => rfl) ?_
  refine mjGo.op (pc' := 45) (F' := ([some (.ref 43), some (.int (nI e))], [.int (I 72 e)], mjH I X)) (o := mjiald 45) rfl (fun _ => mjald_n (n := 8) (by omega) (by decide) (rfl) (rfl)) ?_
  refine mjGo.run 0 (pc' := 45) (F' := ([some (.ref 43), some (.int (nI e))], [.int (I 72 e)], mjH I X)) (fun _ => rfl) ?_
  rw [show (I 72 e) = (nI kd) from hk]
  refine mjGo.run 1 (pc' := 47) (F' := ([some (.ref 43), some (.int (nI e))], [.int 6, .int (nI kd)], mjH I X)) (fun _ => rfl) ?_
  refine mjGo.run 1 (pc' := (bif decide ((nI kd) = 6) then 59 else 50)) (F' := ([some (.ref 43), some (.int (nI e))], [], mjH I X)) (fun _ => rfl) ?_
  refine mjGo.brF (by rw [show (6 : Int32) = nI 6 from rfl, nI_eq (by omega) (by omega)]; omega) ?_
  show mjGo _ _ 50 _ _
  refine mjGo.run 3 (pc' := 55) (F' := ([some (.ref 43), some (.int (nI e))], [.int (nI e), .ref 73], mjH I X)) (fun _ => rfl) ?_
  refine mjGo.op (pc' := 56) (F' := ([some (.ref 43), some (.int (nI e))], [.int (I 73 e)], mjH I X)) (o := mjiald 56) rfl (fun _ => mjald_n (n := 8) (by omega) (by decide) (rfl) (rfl)) ?_
  refine mjGo.run 1 (pc' := (bif decide ((I 73 e) ≠ 0) then 62 else 59)) (F' := ([some (.ref 43), some (.int (nI e))], [], mjH I X)) (fun _ => rfl) ?_
  refine mjGo.brT (h0) ?_
  show mjGo _ _ 62 _ _
  refine mjGo.run 3 (pc' := 67) (F' := ([some (.ref 43), some (.int (nI e))], [.int (nI e), .ref 72], mjH I X)) (fun _ => rfl) ?_
  refine mjGo.op (pc' := 68) (F' := ([some (.ref 43), some (.int (nI e))], [.int (I 72 e)], mjH I X)) (o := mjiald 68) rfl (fun _ => mjald_n (n := 8) (by omega) (by decide) (rfl) (rfl)) ?_
  refine mjGo.run 0 (pc' := 68) (F' := ([some (.ref 43), some (.int (nI e))], [.int (I 72 e)], mjH I X)) (fun _ => rfl) ?_
  rw [show (I 72 e) = (nI kd) from hk]
  refine mjGo.run 1 (pc' := 69) (F' := ([some (.ref 43), some (.int (nI e))], [.int 4, .int (nI kd)], mjH I X)) (fun _ => rfl) ?_
  refine mjGo.run 1 (pc' := (bif decide ((nI kd) ≠ 4) then 84 else 72)) (F' := ([some (.ref 43), some (.int (nI e))], [], mjH I X)) (fun _ => rfl) ?_
  refine mjGo.brT (by rw [show (4 : Int32) = nI 4 from rfl, ne_eq, nI_eq (by omega) (by omega)]; omega) ?_
  show mjGo _ _ 84 _ _
  refine mjGo.run 3 (pc' := 89) (F' := ([some (.ref 43), some (.int (nI e))], [.int (nI e), .ref 72], mjH I X)) (fun _ => rfl) ?_
  refine mjGo.op (pc' := 90) (F' := ([some (.ref 43), some (.int (nI e))], [.int (I 72 e)], mjH I X)) (o := mjiald 90) rfl (fun _ => mjald_n (n := 8) (by omega) (by decide) (rfl) (rfl)) ?_
  refine mjGo.run 0 (pc' := 90) (F' := ([some (.ref 43), some (.int (nI e))], [.int (I 72 e)], mjH I X)) (fun _ => rfl) ?_
  rw [show (I 72 e) = (nI kd) from hk]
  refine mjGo.run 1 (pc' := 92) (F' := ([some (.ref 43), some (.int (nI e))], [.int 7, .int (nI kd)], mjH I X)) (fun _ => rfl) ?_
  refine mjGo.run 1 (pc' := (bif decide ((nI kd) ≠ 7) then 107 else 95)) (F' := ([some (.ref 43), some (.int (nI e))], [], mjH I X)) (fun _ => rfl) ?_
  refine mjGo.brF (by rw [show (7 : Int32) = nI 7 from rfl, ne_eq, nI_eq (by omega) (by omega)]; omega) ?_
  show mjGo _ _ 95 _ _
  refine mjGo.run 3 (pc' := 100) (F' := ([some (.ref 43), some (.int (nI e))], [.int (nI e), .ref 43, .int 200], mjH I X)) (fun _ => rfl) ?_
  refine mjGo.call (n := 2) (j := 194) (nx := 103) (o := some (.int (mSkO I e))) (h' := mjH I X) (fun _ => rfl) (c_mSkO _ e he) ?_
  show mjGo _ _ 103 ([some (.ref 43), some (.int (nI e))], [.int (mSkO I e), .int 200], mjH I X) _
  exact mjGo.ret 3 (fun _ => rfl) rfl
theorem c_mTsH (d : Nat) {e kd : Nat} {I : Nat → Nat → Int32} {X : MX} (he : e < 8) (hh : I 66 e = 1) (hk : I 72 e = nI kd) (hkd : kd < 8) (h6 : kd ≠ 6) (h0 : I 73 e ≠ 0) (h4 : kd ≠ 4) (h7 : kd ≠ 7) : mjEv (d + 3) nyX12_toss [.ref 43, .int (nI e)] (mjH I X) (.inl (some (.int (I 71 e)))) (mjH I X) := by
  refine mjEv.of ?_
  show mjGo (d + 3) nyX12_toss 0 ([some (.ref 43), some (.int (nI e))], [], mjH I X) _
  refine mjGo.run 3 (pc' := 4) (F' := ([some (.ref 43), some (.int (nI e))], [.int 7, .int 0, .int (nI e)], mjH I X)) (fun _ => rfl) ?_
  refine mjGo.call (n := 3) (j := 132) (nx := 7) (o := some (.int 1)) (h' := mjH I X) (fun _ => rfl) ((by have q9 := c_mIn (d + 2) (nI e) 0 7 (mjH I X); rw [mShelf_1 he] at q9; exact q9)) ?_
  show mjGo _ _ 7 ([some (.ref 43), some (.int (nI e))], [.int 1], mjH I X) _
  refine mjGo.run 4 (pc' := 17) (F' := ([some (.ref 43), some (.int (nI e))], [.int (nI e), .ref 66], mjH I X)) (fun _ => rfl) ?_
  refine mjGo.op (pc' := 18) (F' := ([some (.ref 43), some (.int (nI e))], [.int (I 66 e)], mjH I X)) (o := mjiald 18) rfl (fun _ => mjald_n (n := 8) (by omega) (by decide) (rfl) (rfl)) ?_
  refine mjGo.run 0 (pc' := 18) (F' := ([some (.ref 43), some (.int (nI e))], [.int (I 66 e)], mjH I X)) (fun _ => rfl) ?_
  rw [show (I 66 e) = 1 from hh]
  refine mjGo.run 5 (pc' := 44) (F' := ([some (.ref 43), some (.int (nI e))], [.int (nI e), .ref 72], mjH I X)) (fun _ => rfl) ?_
  refine mjGo.op (pc' := 45) (F' := ([some (.ref 43), some (.int (nI e))], [.int (I 72 e)], mjH I X)) (o := mjiald 45) rfl (fun _ => mjald_n (n := 8) (by omega) (by decide) (rfl) (rfl)) ?_
  refine mjGo.run 0 (pc' := 45) (F' := ([some (.ref 43), some (.int (nI e))], [.int (I 72 e)], mjH I X)) (fun _ => rfl) ?_
  rw [show (I 72 e) = (nI kd) from hk]
  refine mjGo.run 1 (pc' := 47) (F' := ([some (.ref 43), some (.int (nI e))], [.int 6, .int (nI kd)], mjH I X)) (fun _ => rfl) ?_
  refine mjGo.run 1 (pc' := (bif decide ((nI kd) = 6) then 59 else 50)) (F' := ([some (.ref 43), some (.int (nI e))], [], mjH I X)) (fun _ => rfl) ?_
  refine mjGo.brF (by rw [show (6 : Int32) = nI 6 from rfl, nI_eq (by omega) (by omega)]; omega) ?_
  show mjGo _ _ 50 _ _
  refine mjGo.run 3 (pc' := 55) (F' := ([some (.ref 43), some (.int (nI e))], [.int (nI e), .ref 73], mjH I X)) (fun _ => rfl) ?_
  refine mjGo.op (pc' := 56) (F' := ([some (.ref 43), some (.int (nI e))], [.int (I 73 e)], mjH I X)) (o := mjiald 56) rfl (fun _ => mjald_n (n := 8) (by omega) (by decide) (rfl) (rfl)) ?_
  refine mjGo.run 1 (pc' := (bif decide ((I 73 e) ≠ 0) then 62 else 59)) (F' := ([some (.ref 43), some (.int (nI e))], [], mjH I X)) (fun _ => rfl) ?_
  refine mjGo.brT (h0) ?_
  show mjGo _ _ 62 _ _
  refine mjGo.run 3 (pc' := 67) (F' := ([some (.ref 43), some (.int (nI e))], [.int (nI e), .ref 72], mjH I X)) (fun _ => rfl) ?_
  refine mjGo.op (pc' := 68) (F' := ([some (.ref 43), some (.int (nI e))], [.int (I 72 e)], mjH I X)) (o := mjiald 68) rfl (fun _ => mjald_n (n := 8) (by omega) (by decide) (rfl) (rfl)) ?_
  refine mjGo.run 0 (pc' := 68) (F' := ([some (.ref 43), some (.int (nI e))], [.int (I 72 e)], mjH I X)) (fun _ => rfl) ?_
  rw [show (I 72 e) = (nI kd) from hk]
  refine mjGo.run 1 (pc' := 69) (F' := ([some (.ref 43), some (.int (nI e))], [.int 4, .int (nI kd)], mjH I X)) (fun _ => rfl) ?_
  refine mjGo.run 1 (pc' := (bif decide ((nI kd) ≠ 4) then 84 else 72)) (F' := ([some (.ref 43), some (.int (nI e))], [], mjH I X)) (fun _ => rfl) ?_
  refine mjGo.brT (by rw [show (4 : Int32) = nI 4 from rfl, ne_eq, nI_eq (by omega) (by omega)]; omega) ?_
  show mjGo _ _ 84 _ _
  refine mjGo.run 3 (pc' := 89) (F' := ([some (.ref 43), some (.int (nI e))], [.int (nI e), .ref 72], mjH I X)) (fun _ => rfl) ?_
  refine mjGo.op (pc' := 90) (F' := ([some (.ref 43), some (.int (nI e))], [.int (I 72 e)], mjH I X)) (o := mjiald 90) rfl (fun _ => mjald_n (n := 8) (by omega) (by decide) (rfl) (rfl)) ?_
  refine mjGo.run 0 (pc' := 90) (F' := ([some (.ref 43), some (.int (nI e))], [.int (I 72 e)], mjH I X)) (fun _ => rfl) ?_
  rw [show (I 72 e) = (nI kd) from hk]
  refine mjGo.run 1 (pc' := 92) (F' := ([some (.ref 43), some (.int (nI e))], [.int 7, .int (nI kd)], mjH I X)) (fun _ => rfl) ?_
  refine mjGo.run 1 (pc' := (bif decide ((nI kd) ≠ 7) then 107 else 95)) (F' := ([some (.ref 43), some (.int (nI e))], [], mjH I X)) (fun _ => rfl) ?_
  refine mjGo.brT (by rw [show (7 : Int32) = nI 7 from rfl, ne_eq, nI_eq (by omega) (by omega)]; omega) ?_
  show mjGo _ _ 107 _ _
  refine mjGo.run 3 (pc' := 112) (F' := ([some (.ref 43), some (.int (nI e))], [.int (nI e), .ref 71], mjH I X)) (fun _ => rfl) ?_
  refine mjGo.op (pc' := 113) (F' := ([some (.ref 43), some (.int (nI e))], [.int (I 71 e)], mjH I X)) (o := mjiald 113) rfl (fun _ => mjald_n (n := 8) (by omega) (by decide) (rfl) (rfl)) ?_
  exact mjGo.ret 1 (fun _ => rfl) rfl
