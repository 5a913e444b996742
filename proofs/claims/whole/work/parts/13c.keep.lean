/-! keep -/
def stP (X : MX) (k j a : Nat) : MX := (mjU X.1 k j (some a), X.2)
theorem stP_H {I : Nat → Nat → Int32} {X : MX} {k j a : Nat} (hk : mjfix k j = none) : mjsP (mjH I X) k j (some a) = mjH I (stP X k j a) := by
  have e : mjU (mjfP X.1) k j (some a) = mjfP (mjU X.1 k j (some a)) := by
    funext b c
    unfold mjU mjfP
    by_cases h1 : b = k
    · subst h1
      rw [if_pos rfl]
      by_cases h2 : c = j
      · subst h2
        rw [if_pos rfl, hk]
        show _ = (if b = b then (if c = c then some a else X.1 b c) else X.1 b c)
        rw [if_pos rfl, if_pos rfl]
      · rw [if_neg h2]
        show _ = (match mjfix b c with | some k => some k | none => if b = b then (if c = j then some a else X.1 b c) else X.1 b c)
        rw [if_pos rfl, if_neg h2]
        rfl
    · rw [if_neg h1]
      show _ = (match mjfix b c with | some k => some k | none => if b = k then (if c = j then some a else X.1 b c) else X.1 b c)
      rw [if_neg h1]
      rfl
  unfold mjsP mjH stP
  dsimp only
  rw [e]
theorem aast_op {I : Nat → Nat → Int32} {X : MX} {k j n a kd nx : Nat} {al : List (Option Value)} {st : List Value} {call : MCall} (hj : j < n) (hn2 : n < 2 ^ 31) (hk : (Nat.blt k (mjN (mjH I X)) && (mjT (mjH I X) k).1 == 14) = true) (hn : (mjT (mjH I X) k).2 = n) (hf : mjfix k j = none) (h : lkK X a kd) : mjaast 14 [0, 1, 2, 4, 5, 7, 8, 9] nx call (al, .ref a :: .int (nI j) :: .ref k :: st, mjH I X) = some (.inl (nx, (al, st, mjH I (stP X k j a)))) := by
  unfold mjaast
  show (bif ((Nat.blt k (mjN (mjH I X)) && (mjT (mjH I X) k).1 == 14) && mjin (nI j) (mjT (mjH I X) k).2) && (Nat.blt a (mjN (mjH I X)) && [0, 1, 2, 4, 5, 7, 8, 9].contains (mjT (mjH I X) a).1) then (some (.inl (nx, (al, st, mjsP (mjH I X) k (nI j).toNatClampNeg (some a)))) : Option ((Nat × MF) ⊕ (MO × MH))) else none) = _
  rw [hk, hn, mjin_n hj hn2, mjH_T h.1, h.2.2.1, lkc_in h.2.2.2, Nat.blt_eq.mpr (show a < mjN (mjH I X) from h.2.1), nI_clamp (by omega), stP_H hf]
  rfl
theorem shelf_cases (q : Int32) : (∃ e, e < 8 ∧ q = nI e) ∨ (xShelf q = 0 ∧ mIn q 0 7 = 0) := by
  rcases q_cases 7 (by omega) q with ⟨j, hj, e, _⟩ | ⟨e, hj⟩
  · exact Or.inl ⟨j, by omega, e⟩
  · refine Or.inr ⟨?_, e⟩
    unfold xShelf
    by_cases h1 : q < 0
    · rw [if_pos h1]
    · rw [if_neg h1]
      by_cases h2 : 8 ≤ q
      · rw [if_pos h2]
      · exfalso
        have e7 : (7 : Int32).toInt = 7 := by decide
        have e8 : (8 : Int32).toInt = 8 := by decide
        obtain ⟨j, hj2, e2⟩ := nI_of2 (n := 7) (M := 7) (by decide) h1 (by rw [i32_le] at h2; rw [i32_le]; omega)
        exact hj j hj2 e2
theorem xShelf_1 {e : Nat} (h : e < 8) : xShelf (nI e) = 1 := by
  unfold xShelf
  rw [if_neg (nI_pos (by omega)), if_neg (by rw [show (8 : Int32) = nI 8 from rfl, nI_leI (by omega) (by omega)]; omega)]
theorem mShelf_1 {e : Nat} (h : e < 8) : mIn (nI e) 0 7 = 1 := mIn_yes (n := 8) h (by omega)
theorem c_xKeepA (d : Nat) {q w k : Int32} {I : Nat → Nat → Int32} {X : MX} (hs : xShelf q = 0) : mjEv (d + 2) nyX11_keep [.ref 0, .int q, .int w, .int k] (mjH I X) (.inl (some (.int (-1)))) (mjH I X) := by
  refine mjEv.of ?_
  show mjGo (d + 2) nyX11_keep 0 ([some (.ref 0), some (.int q), some (.int w), some (.int k), none], [], mjH I X) _
  refine mjGo.run 1 (pc' := 1) (F' := ([some (.ref 0), some (.int q), some (.int w), some (.int k), none], [.int q], mjH I X)) (fun _ => rfl) ?_
  refine mjGo.call (n := 1) (j := 77) (nx := 4) (o := some (.int 0)) (h' := mjH I X) (fun _ => rfl) ((by have q9 := c_xShelf (d + 1) q (mjH I X); rw [hs] at q9; exact q9)) ?_
  show mjGo _ _ 4 ([some (.ref 0), some (.int q), some (.int w), some (.int k), none], [.int 0], mjH I X) _
  exact mjGo.ret 3 (fun _ => rfl) rfl
theorem c_xKeepB (d : Nat) {e : Nat} {k : Int32} {I : Nat → Nat → Int32} {X : MX} (he : e < 8) : mjEv (d + 2) nyX11_keep [.ref 0, .int (nI e), .int 0, .int k] (mjH I X) (.inl (some (.int 0))) (mjH (mjU I 24 e 0) X) := by
  refine mjEv.of ?_
  show mjGo (d + 2) nyX11_keep 0 ([some (.ref 0), some (.int (nI e)), some (.int 0), some (.int k), none], [], mjH I X) _
  refine mjGo.run 1 (pc' := 1) (F' := ([some (.ref 0), some (.int (nI e)), some (.int 0), some (.int k), none], [.int (nI e)], mjH I X)) (fun _ => rfl) ?_
  refine mjGo.call (n := 1) (j := 77) (nx := 4) (o := some (.int 1)) (h' := mjH I X) (fun _ => rfl) ((by have q9 := c_xShelf (d + 1) (nI e) (mjH I X); rw [xShelf_1 he] at q9; exact q9)) ?_
  show mjGo _ _ 4 ([some (.ref 0), some (.int (nI e)), some (.int 0), some (.int k), none], [.int 1], mjH I X) _
  refine mjGo.run 7 (pc' := 19) (F' := ([some (.ref 0), some (.int (nI e)), some (.int 0), some (.int k), none], [.int 0, .int (nI e), .ref 24], mjH I X)) (fun _ => rfl) ?_
  refine mjGo.op (pc' := 20) (F' := ([some (.ref 0), some (.int (nI e)), some (.int 0), some (.int k), none], [], mjH (mjU I 24 e 0) X)) (o := mjiast 20) rfl (fun _ => mjast_n (n := 8) (by omega) (by decide) (rfl) (rfl)) ?_
  exact mjGo.ret 2 (fun _ => rfl) rfl
theorem c_xKeepC (d : Nat) {e : Nat} {nl i a kd : Nat} {I : Nat → Nat → Int32} {X : MX} (he : e < 8) (hn : nl ≤ 6) (h16 : I 1 6 = nI nl) (hi : i < nl) (hP : X.1 5 i = some a) (hlk : lkK X a kd) : mjEv (d + 2) nyX11_keep [.ref 0, .int (nI e), .int 1, .int (nI i)] (mjH I X) (.inl (some (.int 0))) (mjH (mjU I 24 e 1) (stP X 25 e a)) := by
  refine mjEv.of ?_
  show mjGo (d + 2) nyX11_keep 0 ([some (.ref 0), some (.int (nI e)), some (.int 1), some (.int (nI i)), none], [], mjH I X) _
  refine mjGo.run 1 (pc' := 1) (F' := ([some (.ref 0), some (.int (nI e)), some (.int 1), some (.int (nI i)), none], [.int (nI e)], mjH I X)) (fun _ => rfl) ?_
  refine mjGo.call (n := 1) (j := 77) (nx := 4) (o := some (.int 1)) (h' := mjH I X) (fun _ => rfl) ((by have q9 := c_xShelf (d + 1) (nI e) (mjH I X); rw [xShelf_1 he] at q9; exact q9)) ?_
  show mjGo _ _ 4 ([some (.ref 0), some (.int (nI e)), some (.int 1), some (.int (nI i)), none], [.int 1], mjH I X) _
  refine mjGo.run 5 (pc' := 24) (F' := ([some (.ref 0), some (.int (nI e)), some (.int 1), some (.int (nI i)), none], [.int (nI i), .ref 0], mjH I X)) (fun _ => rfl) ?_
  refine mjGo.call (n := 2) (j := 91) (nx := 27) (o := some (.ref a)) (h' := mjH I X) (fun _ => rfl) (c_lkYes _ hn h16 hi hP) ?_
  show mjGo _ _ 27 ([some (.ref 0), some (.int (nI e)), some (.int 1), some (.int (nI i)), none], [.ref a], mjH I X) _
  refine mjGo.run 10 (pc' := 47) (F' := ([some (.ref 0), some (.int (nI e)), some (.int 1), some (.int (nI i)), some (.ref a)], [.int 1, .int (nI e), .ref 24], mjH I X)) (fun _ => rfl) ?_
  refine mjGo.op (pc' := 48) (F' := ([some (.ref 0), some (.int (nI e)), some (.int 1), some (.int (nI i)), some (.ref a)], [], mjH (mjU I 24 e 1) X)) (o := mjiast 48) rfl (fun _ => mjast_n (n := 8) (by omega) (by decide) (rfl) (rfl)) ?_
  refine mjGo.run 4 (pc' := 55) (F' := ([some (.ref 0), some (.int (nI e)), some (.int 1), some (.int (nI i)), some (.ref a)], [.ref a, .int (nI e), .ref 25], mjH (mjU I 24 e 1) X)) (fun _ => rfl) ?_
  refine mjGo.op (pc' := 56) (F' := ([some (.ref 0), some (.int (nI e)), some (.int 1), some (.int (nI i)), some (.ref a)], [], mjH (mjU I 24 e 1) (stP X 25 e a))) (o := mjaast 14 [0, 1, 2, 4, 5, 7, 8, 9] 56) rfl (fun _ => aast_op (n := 8) he (by omega) rfl rfl rfl hlk) ?_
  exact mjGo.ret 2 (fun _ => rfl) rfl
theorem c_xKeepD (d : Nat) {e nl : Nat} {w k : Int32} {I : Nat → Nat → Int32} {X : MX} (he : e < 8) (hn : nl ≤ 6) (h16 : I 1 6 = nI nl) (hno : mIn k 0 (nI nl - 1) = 0) (hw : w ≠ 0) : mjEv (d + 2) nyX11_keep [.ref 0, .int (nI e), .int w, .int k] (mjH I X) (.inl (some (.int (-1)))) (mjH I X) := by
  refine mjEv.of ?_
  show mjGo (d + 2) nyX11_keep 0 ([some (.ref 0), some (.int (nI e)), some (.int w), some (.int k), none], [], mjH I X) _
  refine mjGo.run 1 (pc' := 1) (F' := ([some (.ref 0), some (.int (nI e)), some (.int w), some (.int k), none], [.int (nI e)], mjH I X)) (fun _ => rfl) ?_
  refine mjGo.call (n := 1) (j := 77) (nx := 4) (o := some (.int 1)) (h' := mjH I X) (fun _ => rfl) ((by have q9 := c_xShelf (d + 1) (nI e) (mjH I X); rw [xShelf_1 he] at q9; exact q9)) ?_
  show mjGo _ _ 4 ([some (.ref 0), some (.int (nI e)), some (.int w), some (.int k), none], [.int 1], mjH I X) _
  refine mjGo.run 3 (pc' := (bif decide (w ≠ 0) then 22 else 13)) (F' := ([some (.ref 0), some (.int (nI e)), some (.int w), some (.int k), none], [], mjH I X)) (fun _ => rfl) ?_
  refine mjGo.br (fun q1 => ?_) (fun q1 => ?_)
  · show mjGo _ _ 22 _ _
    refine mjGo.run 2 (pc' := 24) (F' := ([some (.ref 0), some (.int (nI e)), some (.int w), some (.int k), none], [.int k, .ref 0], mjH I X)) (fun _ => rfl) ?_
    refine mjGo.call (n := 2) (j := 91) (nx := 27) (o := some (.null)) (h' := mjH I X) (fun _ => rfl) (c_lkNo _ hn h16 hno) ?_
    show mjGo _ _ 27 ([some (.ref 0), some (.int (nI e)), some (.int w), some (.int k), none], [.null], mjH I X) _
    refine mjGo.run 4 (pc' := (bif decide (w ≠ 1) then 39 else 34)) (F' := ([some (.ref 0), some (.int (nI e)), some (.int w), some (.int k), some (.null)], [], mjH I X)) (fun _ => rfl) ?_
    refine mjGo.br (fun q2 => ?_) (fun q2 => ?_)
    · show mjGo _ _ 39 _ _
      exact mjGo.ret 2 (fun _ => rfl) rfl
    · show mjGo _ _ 34 _ _
      exact mjGo.ret 4 (fun _ => rfl) rfl
  · show mjGo _ _ 13 _ _
    first | exact absurd q1 hw | exact absurd hw q1 | (exfalso; simp_all; done)
theorem c_xKeepE (d : Nat) {e : Nat} {w : Int32} {nl i a kd : Nat} {I : Nat → Nat → Int32} {X : MX} (he : e < 8) (hn : nl ≤ 6) (h16 : I 1 6 = nI nl) (hi : i < nl) (hP : X.1 5 i = some a) (hlk : lkK X a kd) (hw : w ≠ 0) (hw1 : w ≠ 1) : mjEv (d + 2) nyX11_keep [.ref 0, .int (nI e), .int w, .int (nI i)] (mjH I X) (.inl (some (.int (-1)))) (mjH I X) := by
  refine mjEv.of ?_
  show mjGo (d + 2) nyX11_keep 0 ([some (.ref 0), some (.int (nI e)), some (.int w), some (.int (nI i)), none], [], mjH I X) _
  refine mjGo.run 1 (pc' := 1) (F' := ([some (.ref 0), some (.int (nI e)), some (.int w), some (.int (nI i)), none], [.int (nI e)], mjH I X)) (fun _ => rfl) ?_
  refine mjGo.call (n := 1) (j := 77) (nx := 4) (o := some (.int 1)) (h' := mjH I X) (fun _ => rfl) ((by have q9 := c_xShelf (d + 1) (nI e) (mjH I X); rw [xShelf_1 he] at q9; exact q9)) ?_
  show mjGo _ _ 4 ([some (.ref 0), some (.int (nI e)), some (.int w), some (.int (nI i)), none], [.int 1], mjH I X) _
  refine mjGo.run 3 (pc' := (bif decide (w ≠ 0) then 22 else 13)) (F' := ([some (.ref 0), some (.int (nI e)), some (.int w), some (.int (nI i)), none], [], mjH I X)) (fun _ => rfl) ?_
  refine mjGo.br (fun q1 => ?_) (fun q1 => ?_)
  · show mjGo _ _ 22 _ _
    refine mjGo.run 2 (pc' := 24) (F' := ([some (.ref 0), some (.int (nI e)), some (.int w), some (.int (nI i)), none], [.int (nI i), .ref 0], mjH I X)) (fun _ => rfl) ?_
    refine mjGo.call (n := 2) (j := 91) (nx := 27) (o := some (.ref a)) (h' := mjH I X) (fun _ => rfl) (c_lkYes _ hn h16 hi hP) ?_
    show mjGo _ _ 27 ([some (.ref 0), some (.int (nI e)), some (.int w), some (.int (nI i)), none], [.ref a], mjH I X) _
    refine mjGo.run 4 (pc' := (bif decide (w ≠ 1) then 39 else 34)) (F' := ([some (.ref 0), some (.int (nI e)), some (.int w), some (.int (nI i)), some (.ref a)], [], mjH I X)) (fun _ => rfl) ?_
    refine mjGo.br (fun q2 => ?_) (fun q2 => ?_)
    · show mjGo _ _ 39 _ _
      exact mjGo.ret 2 (fun _ => rfl) rfl
    · show mjGo _ _ 34 _ _
      first | exact absurd q2 hw1 | exact absurd hw1 q2 | (exfalso; simp_all; done)
  · show mjGo _ _ 13 _ _
    first | exact absurd q1 hw | exact absurd hw q1 | (exfalso; simp_all; done)
theorem c_mKeepA (d : Nat) {q w k : Int32} {I : Nat → Nat → Int32} {X : MX} (hs : mIn q 0 7 = 0) : mjEv (d + 2) nyX12_keep [.ref 43, .int q, .int w, .int k] (mjH I X) (.inl (some (.int (-1)))) (mjH I X) := by
  refine mjEv.of ?_
  show mjGo (d + 2) nyX12_keep 0 ([some (.ref 43), some (.int q), some (.int w), some (.int k)], [], mjH I X) _
  refine mjGo.run 3 (pc' := 4) (F' := ([some (.ref 43), some (.int q), some (.int w), some (.int k)], [.int 7, .int 0, .int q], mjH I X)) (fun _ => rfl) ?_
  refine mjGo.call (n := 3) (j := 132) (nx := 7) (o := some (.int 0)) (h' := mjH I X) (fun _ => rfl) ((by have q9 := c_mIn (d + 1) q 0 7 (mjH I X); rw [hs] at q9; exact q9)) ?_
  show mjGo _ _ 7 ([some (.ref 43), some (.int q), some (.int w), some (.int k)], [.int 0], mjH I X) _
  exact mjGo.ret 3 (fun _ => rfl) rfl
theorem c_mKeepB (d : Nat) {e : Nat} {k : Int32} {I : Nat → Nat → Int32} {X : MX} (he : e < 8) : mjEv (d + 2) nyX12_keep [.ref 43, .int (nI e), .int 0, .int k] (mjH I X) (.inl (some (.int 0))) (mjH (mjU I 66 e 0) X) := by
  refine mjEv.of ?_
  show mjGo (d + 2) nyX12_keep 0 ([some (.ref 43), some (.int (nI e)), some (.int 0), some (.int k)], [], mjH I X) _
  refine mjGo.run 3 (pc' := 4) (F' := ([some (.ref 43), some (.int (nI e)), some (.int 0), some (.int k)], [.int 7, .int 0, .int (nI e)], mjH I X)) (fun _ => rfl) ?_
  refine mjGo.call (n := 3) (j := 132) (nx := 7) (o := some (.int 1)) (h' := mjH I X) (fun _ => rfl) ((by have q9 := c_mIn (d + 1) (nI e) 0 7 (mjH I X); rw [mShelf_1 he] at q9; exact q9)) ?_
  show mjGo _ _ 7 ([some (.ref 43), some (.int (nI e)), some (.int 0), some (.int k)], [.int 1], mjH I X) _
  refine mjGo.run 4 (pc' := 13) (F' := ([some (.ref 43), some (.int (nI e)), some (.int 0), some (.int k)], [.int 1, .int 0, .int 0], mjH I X)) (fun _ => rfl) ?_
  refine mjGo.call (n := 3) (j := 132) (nx := 16) (o := some (.int 1)) (h' := mjH I X) (fun _ => rfl) ((by have q9 := c_mIn (d + 1) 0 0 1 (mjH I X); rw [show mIn 0 0 1 = 1 from rfl] at q9; exact q9)) ?_
  show mjGo _ _ 16 ([some (.ref 43), some (.int (nI e)), some (.int 0), some (.int k)], [.int 1], mjH I X) _
  refine mjGo.run 8 (pc' := 40) (F' := ([some (.ref 43), some (.int (nI e)), some (.int 0), some (.int k)], [.int 0, .int (nI e), .ref 66], mjH I X)) (fun _ => rfl) ?_
  refine mjGo.op (pc' := 41) (F' := ([some (.ref 43), some (.int (nI e)), some (.int 0), some (.int k)], [], mjH (mjU I 66 e 0) X)) (o := mjiast 41) rfl (fun _ => mjast_n (n := 8) (by omega) (by decide) (rfl) (rfl)) ?_
  exact mjGo.ret 5 (fun _ => rfl) rfl
theorem c_mKeepC (d : Nat) {e nl i : Nat} {I : Nat → Nat → Int32} {X : MX} (he : e < 8) (hn : nl ≤ 6) (h44 : I 44 1 = nI nl) (hi : i < nl) : mjEv (d + 2) nyX12_keep [.ref 43, .int (nI e), .int 1, .int (nI i)] (mjH I X) (.inl (some (.int 0))) (mjH (mjU (mjU (mjU (mjU I 66 e 1) 71 e (nI i)) 72 e (I 48 i)) 73 e (I 49 i)) X) := by
  refine mjEv.of ?_
  show mjGo (d + 2) nyX12_keep 0 ([some (.ref 43), some (.int (nI e)), some (.int 1), some (.int (nI i))], [], mjH I X) _
  refine mjGo.run 3 (pc' := 4) (F' := ([some (.ref 43), some (.int (nI e)), some (.int 1), some (.int (nI i))], [.int 7, .int 0, .int (nI e)], mjH I X)) (fun _ => rfl) ?_
  refine mjGo.call (n := 3) (j := 132) (nx := 7) (o := some (.int 1)) (h' := mjH I X) (fun _ => rfl) ((by have q9 := c_mIn (d + 1) (nI e) 0 7 (mjH I X); rw [mShelf_1 he] at q9; exact q9)) ?_
  show mjGo _ _ 7 ([some (.ref 43), some (.int (nI e)), some (.int 1), some (.int (nI i))], [.int 1], mjH I X) _
  refine mjGo.run 4 (pc' := 13) (F' := ([some (.ref 43), some (.int (nI e)), some (.int 1), some (.int (nI i))], [.int 1, .int 0, .int 1], mjH I X)) (fun _ => rfl) ?_
  refine mjGo.call (n := 3) (j := 132) (nx := 16) (o := some (.int 1)) (h' := mjH I X) (fun _ => rfl) ((by have q9 := c_mIn (d + 1) 1 0 1 (mjH I X); rw [show mIn 1 0 1 = 1 from rfl] at q9; exact q9)) ?_
  show mjGo _ _ 16 ([some (.ref 43), some (.int (nI e)), some (.int 1), some (.int (nI i))], [.int 1], mjH I X) _
  refine mjGo.run 6 (pc' := 26) (F' := ([some (.ref 43), some (.int (nI e)), some (.int 1), some (.int (nI i))], [.int (nI i), .ref 43], mjH I X)) (fun _ => rfl) ?_
  refine mjGo.call (n := 2) (j := 138) (nx := 29) (o := some (.int 1)) (h' := mjH I X) (fun _ => rfl) ((by have q := c_mIsL d (nI i) (I := I) (X := X); rw [mIsL, h44, mIn_yes hi (by omega)] at q; exact q)) ?_
  show mjGo _ _ 29 ([some (.ref 43), some (.int (nI e)), some (.int 1), some (.int (nI i))], [.int 1], mjH I X) _
  refine mjGo.run 5 (pc' := 40) (F' := ([some (.ref 43), some (.int (nI e)), some (.int 1), some (.int (nI i))], [.int 1, .int (nI e), .ref 66], mjH I X)) (fun _ => rfl) ?_
  refine mjGo.op (pc' := 41) (F' := ([some (.ref 43), some (.int (nI e)), some (.int 1), some (.int (nI i))], [], mjH (mjU I 66 e 1) X)) (o := mjiast 41) rfl (fun _ => mjast_n (n := 8) (by omega) (by decide) (rfl) (rfl)) ?_
  refine mjGo.run 7 (pc' := 52) (F' := ([some (.ref 43), some (.int (nI e)), some (.int 1), some (.int (nI i))], [.int (nI i), .int (nI e), .ref 71], mjH (mjU I 66 e 1) X)) (fun _ => rfl) ?_
  refine mjGo.op (pc' := 53) (F' := ([some (.ref 43), some (.int (nI e)), some (.int 1), some (.int (nI i))], [], mjH (mjU (mjU I 66 e 1) 71 e (nI i)) X)) (o := mjiast 53) rfl (fun _ => mjast_n (n := 8) (by omega) (by decide) (rfl) (rfl)) ?_
  refine mjGo.run 6 (pc' := 63) (F' := ([some (.ref 43), some (.int (nI e)), some (.int 1), some (.int (nI i))], [.int (nI i), .ref 48, .int (nI e), .ref 72], mjH (mjU (mjU I 66 e 1) 71 e (nI i)) X)) (fun _ => rfl) ?_
  refine mjGo.op (pc' := 64) (F' := ([some (.ref 43), some (.int (nI e)), some (.int 1), some (.int (nI i))], [.int (I 48 i), .int (nI e), .ref 72], mjH (mjU (mjU I 66 e 1) 71 e (nI i)) X)) (o := mjiald 64) rfl (fun _ => mjald_n (n := 6) (by omega) (by decide) (rfl) (rfl)) ?_
  refine mjGo.op (pc' := 65) (F' := ([some (.ref 43), some (.int (nI e)), some (.int 1), some (.int (nI i))], [], mjH (mjU (mjU (mjU I 66 e 1) 71 e (nI i)) 72 e (I 48 i)) X)) (o := mjiast 65) rfl (fun _ => mjast_n (n := 8) (by omega) (by decide) (rfl) (rfl)) ?_
  refine mjGo.run 6 (pc' := 75) (F' := ([some (.ref 43), some (.int (nI e)), some (.int 1), some (.int (nI i))], [.int (nI i), .ref 49, .int (nI e), .ref 73], mjH (mjU (mjU (mjU I 66 e 1) 71 e (nI i)) 72 e (I 48 i)) X)) (fun _ => rfl) ?_
  refine mjGo.op (pc' := 76) (F' := ([some (.ref 43), some (.int (nI e)), some (.int 1), some (.int (nI i))], [.int (I 49 i), .int (nI e), .ref 73], mjH (mjU (mjU (mjU I 66 e 1) 71 e (nI i)) 72 e (I 48 i)) X)) (o := mjiald 76) rfl (fun _ => mjald_n (n := 6) (by omega) (by decide) (rfl) (rfl)) ?_
  refine mjGo.op (pc' := 77) (F' := ([some (.ref 43), some (.int (nI e)), some (.int 1), some (.int (nI i))], [], mjH (mjU (mjU (mjU (mjU I 66 e 1) 71 e (nI i)) 72 e (I 48 i)) 73 e (I 49 i)) X)) (o := mjiast 77) rfl (fun _ => mjast_n (n := 8) (by omega) (by decide) (rfl) (rfl)) ?_
  exact mjGo.ret 2 (fun _ => rfl) rfl
theorem c_mKeepD (d : Nat) {e nl : Nat} {k : Int32} {I : Nat → Nat → Int32} {X : MX} (he : e < 8) (h44 : I 44 1 = nI nl) (hno : mIn k 0 (nI nl - 1) = 0) : mjEv (d + 2) nyX12_keep [.ref 43, .int (nI e), .int 1, .int k] (mjH I X) (.inl (some (.int (-1)))) (mjH I X) := by
  refine mjEv.of ?_
  show mjGo (d + 2) nyX12_keep 0 ([some (.ref 43), some (.int (nI e)), some (.int 1), some (.int k)], [], mjH I X) _
  refine mjGo.run 3 (pc' := 4) (F' := ([some (.ref 43), some (.int (nI e)), some (.int 1), some (.int k)], [.int 7, .int 0, .int (nI e)], mjH I X)) (fun _ => rfl) ?_
  refine mjGo.call (n := 3) (j := 132) (nx := 7) (o := some (.int 1)) (h' := mjH I X) (fun _ => rfl) ((by have q9 := c_mIn (d + 1) (nI e) 0 7 (mjH I X); rw [mShelf_1 he] at q9; exact q9)) ?_
  show mjGo _ _ 7 ([some (.ref 43), some (.int (nI e)), some (.int 1), some (.int k)], [.int 1], mjH I X) _
  refine mjGo.run 4 (pc' := 13) (F' := ([some (.ref 43), some (.int (nI e)), some (.int 1), some (.int k)], [.int 1, .int 0, .int 1], mjH I X)) (fun _ => rfl) ?_
  refine mjGo.call (n := 3) (j := 132) (nx := 16) (o := some (.int 1)) (h' := mjH I X) (fun _ => rfl) ((by have q9 := c_mIn (d + 1) 1 0 1 (mjH I X); rw [show mIn 1 0 1 = 1 from rfl] at q9; exact q9)) ?_
  show mjGo _ _ 16 ([some (.ref 43), some (.int (nI e)), some (.int 1), some (.int k)], [.int 1], mjH I X) _
  refine mjGo.run 6 (pc' := 26) (F' := ([some (.ref 43), some (.int (nI e)), some (.int 1), some (.int k)], [.int k, .ref 43], mjH I X)) (fun _ => rfl) ?_
  refine mjGo.call (n := 2) (j := 138) (nx := 29) (o := some (.int 0)) (h' := mjH I X) (fun _ => rfl) ((by have q := c_mIsL d k (I := I) (X := X); rw [mIsL, h44, hno] at q; exact q)) ?_
  show mjGo _ _ 29 ([some (.ref 43), some (.int (nI e)), some (.int 1), some (.int k)], [.int 0], mjH I X) _
  exact mjGo.ret 3 (fun _ => rfl) rfl
theorem c_mKeepE (d : Nat) {e : Nat} {w k : Int32} {I : Nat → Nat → Int32} {X : MX} (he : e < 8) (hw : mIn w 0 1 = 0) : mjEv (d + 2) nyX12_keep [.ref 43, .int (nI e), .int w, .int k] (mjH I X) (.inl (some (.int (-1)))) (mjH I X) := by
  refine mjEv.of ?_
  show mjGo (d + 2) nyX12_keep 0 ([some (.ref 43), some (.int (nI e)), some (.int w), some (.int k)], [], mjH I X) _
  refine mjGo.run 3 (pc' := 4) (F' := ([some (.ref 43), some (.int (nI e)), some (.int w), some (.int k)], [.int 7, .int 0, .int (nI e)], mjH I X)) (fun _ => rfl) ?_
  refine mjGo.call (n := 3) (j := 132) (nx := 7) (o := some (.int 1)) (h' := mjH I X) (fun _ => rfl) ((by have q9 := c_mIn (d + 1) (nI e) 0 7 (mjH I X); rw [mShelf_1 he] at q9; exact q9)) ?_
  show mjGo _ _ 7 ([some (.ref 43), some (.int (nI e)), some (.int w), some (.int k)], [.int 1], mjH I X) _
  refine mjGo.run 4 (pc' := 13) (F' := ([some (.ref 43), some (.int (nI e)), some (.int w), some (.int k)], [.int 1, .int 0, .int w], mjH I X)) (fun _ => rfl) ?_
  refine mjGo.call (n := 3) (j := 132) (nx := 16) (o := some (.int 0)) (h' := mjH I X) (fun _ => rfl) ((by have q9 := c_mIn (d + 1) w 0 1 (mjH I X); rw [hw] at q9; exact q9)) ?_
  show mjGo _ _ 16 ([some (.ref 43), some (.int (nI e)), some (.int w), some (.int k)], [.int 0], mjH I X) _
  exact mjGo.ret 3 (fun _ => rfl) rfl
