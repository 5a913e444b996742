/-! judge: the reference -/
theorem m_jg_loop {d e i sz len b : Nat} {sk : Int32} {I : Nat → Nat → Int32} {X : MX} (he : e < 8) (hz : I 68 e = nI sz) (hs : sz ≤ 100) (hl : I 43 20 = nI len) (hl3 : len ≤ 13) (hb : b = min sz len) : ∀ (k j : Nat) (o5 : Option Value), j + k = b →
    mjGo (d + 3) nyX12_judge 87 ([some (.ref 43), some (.int (nI i)), some (.int (nI e)), some (.int sk), some (.int (nI j)), o5], [], mjH I X) (fun x => x = (.inl (some (.int (jgL (jgB (fun j => I 69 (100 * e + j)) (fun j => I 62 j) sk) (jgF sz len) k j))), mjH I X)) := by
  intro k
  induction k with
  | zero =>
    intro j o5 hj
    by_cases h9 : sz ≤ len
    · refine mjGo.run 4 (pc' := 94) (F' := ([some (.ref 43), some (.int (nI i)), some (.int (nI e)), some (.int sk), some (.int (nI j)), o5], [.int (nI e), .ref 68, .int (nI j)], mjH I X)) (fun _ => rfl) ?_
      refine mjGo.op (pc' := 95) (F' := ([some (.ref 43), some (.int (nI i)), some (.int (nI e)), some (.int sk), some (.int (nI j)), o5], [.int (I 68 e), .int (nI j)], mjH I X)) (o := mjiald 95) rfl (fun _ => mjald_n (n := 8) (by omega) (by decide) (rfl) (rfl)) ?_
      refine mjGo.run 1 (pc' := (bif decide ((I 68 e) ≤ (nI j)) then 153 else 98)) (F' := ([some (.ref 43), some (.int (nI i)), some (.int (nI e)), some (.int sk), some (.int (nI j)), o5], [], mjH I X)) (fun _ => rfl) ?_
      refine mjGo.brT (show (I 68 e) ≤ (nI j) by rw [hz, nI_leI (by omega) (by omega)]; omega) ?_
      show mjGo _ _ 153 _ _
      refine mjGo.run 3 (pc' := 158) (F' := ([some (.ref 43), some (.int (nI i)), some (.int (nI e)), some (.int sk), some (.int (nI j)), o5], [.int (nI e), .ref 68], mjH I X)) (fun _ => rfl) ?_
      refine mjGo.op (pc' := 159) (F' := ([some (.ref 43), some (.int (nI i)), some (.int (nI e)), some (.int sk), some (.int (nI j)), o5], [.int (I 68 e)], mjH I X)) (o := mjiald 159) rfl (fun _ => mjald_n (n := 8) (by omega) (by decide) (rfl) (rfl)) ?_
      refine mjGo.run 3 (pc' := (bif decide ((I 43 20) ≤ (I 68 e)) then 175 else 166)) (F' := ([some (.ref 43), some (.int (nI i)), some (.int (nI e)), some (.int sk), some (.int (nI j)), o5], [], mjH I X)) (fun _ => rfl) ?_
      refine mjGo.br (fun q1 => ?_) (fun q1 => ?_)
      · show mjGo _ _ 175 _ _
        rw [hz, hl, nI_leI (by omega) (by omega)] at q1
        rw [jgL, jgF, if_pos (show sz = len by omega)]
        exact mjGo.ret 2 (fun _ => rfl) rfl
      · show mjGo _ _ 166 _ _
        refine mjGo.run 3 (pc' := 171) (F' := ([some (.ref 43), some (.int (nI i)), some (.int (nI e)), some (.int sk), some (.int (nI j)), o5], [.int (nI e), .ref 68], mjH I X)) (fun _ => rfl) ?_
        refine mjGo.op (pc' := 172) (F' := ([some (.ref 43), some (.int (nI i)), some (.int (nI e)), some (.int sk), some (.int (nI j)), o5], [.int (I 68 e)], mjH I X)) (o := mjiald 172) rfl (fun _ => mjald_n (n := 8) (by omega) (by decide) (rfl) (rfl)) ?_
        rw [hz, hl, nI_leI (by omega) (by omega)] at q1
        rw [jgL, jgF, if_neg (show ¬ sz = len by omega), show min sz len = sz by omega, ← hz]
        exact mjGo.ret 2 (fun _ => rfl) rfl
    · refine mjGo.run 4 (pc' := 94) (F' := ([some (.ref 43), some (.int (nI i)), some (.int (nI e)), some (.int sk), some (.int (nI j)), o5], [.int (nI e), .ref 68, .int (nI j)], mjH I X)) (fun _ => rfl) ?_
      refine mjGo.op (pc' := 95) (F' := ([some (.ref 43), some (.int (nI i)), some (.int (nI e)), some (.int sk), some (.int (nI j)), o5], [.int (I 68 e), .int (nI j)], mjH I X)) (o := mjiald 95) rfl (fun _ => mjald_n (n := 8) (by omega) (by decide) (rfl) (rfl)) ?_
      refine mjGo.run 1 (pc' := (bif decide ((I 68 e) ≤ (nI j)) then 153 else 98)) (F' := ([some (.ref 43), some (.int (nI i)), some (.int (nI e)), some (.int sk), some (.int (nI j)), o5], [], mjH I X)) (fun _ => rfl) ?_
      refine mjGo.brF (show ¬ (I 68 e) ≤ (nI j) by rw [hz, nI_leI (by omega) (by omega)]; omega) ?_
      show mjGo _ _ 98 _ _
      refine mjGo.run 3 (pc' := 104) (F' := ([some (.ref 43), some (.int (nI i)), some (.int (nI e)), some (.int sk), some (.int (nI j)), o5], [.int (I 43 20), .int (nI j)], mjH I X)) (fun _ => rfl) ?_
      refine mjGo.run 1 (pc' := (bif decide ((nI j) ≠ (I 43 20)) then 112 else 107)) (F' := ([some (.ref 43), some (.int (nI i)), some (.int (nI e)), some (.int sk), some (.int (nI j)), o5], [], mjH I X)) (fun _ => rfl) ?_
      refine mjGo.brF (by rw [hl, ne_eq, nI_eq (by omega) (by omega)]; omega) ?_
      show mjGo _ _ 107 _ _
      rw [jgL, jgF, if_neg (show ¬ sz = len by omega), show min sz len = len by omega, ← hl]
      exact mjGo.ret 3 (fun _ => rfl) rfl
  | succ k ih =>
    intro j o5 hj
    refine mjGo.run 4 (pc' := 94) (F' := ([some (.ref 43), some (.int (nI i)), some (.int (nI e)), some (.int sk), some (.int (nI j)), o5], [.int (nI e), .ref 68, .int (nI j)], mjH I X)) (fun _ => rfl) ?_
    refine mjGo.op (pc' := 95) (F' := ([some (.ref 43), some (.int (nI i)), some (.int (nI e)), some (.int sk), some (.int (nI j)), o5], [.int (I 68 e), .int (nI j)], mjH I X)) (o := mjiald 95) rfl (fun _ => mjald_n (n := 8) (by omega) (by decide) (rfl) (rfl)) ?_
    refine mjGo.run 1 (pc' := (bif decide ((I 68 e) ≤ (nI j)) then 153 else 98)) (F' := ([some (.ref 43), some (.int (nI i)), some (.int (nI e)), some (.int sk), some (.int (nI j)), o5], [], mjH I X)) (fun _ => rfl) ?_
    refine mjGo.brF (show ¬ (I 68 e) ≤ (nI j) by rw [hz, nI_leI (by omega) (by omega)]; omega) ?_
    show mjGo _ _ 98 _ _
    refine mjGo.run 3 (pc' := 104) (F' := ([some (.ref 43), some (.int (nI i)), some (.int (nI e)), some (.int sk), some (.int (nI j)), o5], [.int (I 43 20), .int (nI j)], mjH I X)) (fun _ => rfl) ?_
    refine mjGo.run 1 (pc' := (bif decide ((nI j) ≠ (I 43 20)) then 112 else 107)) (F' := ([some (.ref 43), some (.int (nI i)), some (.int (nI e)), some (.int sk), some (.int (nI j)), o5], [], mjH I X)) (fun _ => rfl) ?_
    refine mjGo.brT (by rw [hl, ne_eq, nI_eq (by omega) (by omega)]; omega) ?_
    show mjGo _ _ 112 _ _
    refine mjGo.run 7 (pc' := 123) (F' := ([some (.ref 43), some (.int (nI i)), some (.int (nI e)), some (.int sk), some (.int (nI j)), o5], [.int ((100 * (nI e)) + (nI j)), .ref 69], mjH I X)) (fun _ => rfl) ?_
    refine mjGo.run 0 (pc' := 123) (F' := ([some (.ref 43), some (.int (nI i)), some (.int (nI e)), some (.int sk), some (.int (nI j)), o5], [.int ((100 * (nI e)) + (nI j)), .ref 69], mjH I X)) (fun _ => rfl) ?_
    rw [show ((100 * (nI e)) + (nI j)) = (nI (100 * e + j)) from idx_eq]
    refine mjGo.op (pc' := 124) (F' := ([some (.ref 43), some (.int (nI i)), some (.int (nI e)), some (.int sk), some (.int (nI j)), o5], [.int (I 69 (100 * e + j))], mjH I X)) (o := mjiald 124) rfl (fun _ => mjald_n (n := 800) (by omega) (by decide) (rfl) (rfl)) ?_
    refine mjGo.run 4 (pc' := (bif decide ((I 69 (100 * e + j)) = sk) then 147 else 132)) (F' := ([some (.ref 43), some (.int (nI i)), some (.int (nI e)), some (.int sk), some (.int (nI j)), some (.int (I 69 (100 * e + j)))], [], mjH I X)) (fun _ => rfl) ?_
    refine mjGo.br (fun q1 => ?_) (fun q1 => ?_)
    · show mjGo _ _ 147 _ _
      refine mjGo.run 2 (pc' := 87) (F' := ([some (.ref 43), some (.int (nI i)), some (.int (nI e)), some (.int sk), some (.int ((nI j) + 1)), some (.int (I 69 (100 * e + j)))], [], mjH I X)) (fun _ => rfl) ?_
      have k9 := ih (j + 1) (some (.int (I 69 (100 * e + j)))) (by omega)
      rw [← nI_1] at k9
      rw [jgL, jgB_1 (v := fun j => I 69 (100 * e + j)) (g := fun j => I 62 j) q1, if_neg (by decide)]
      exact k9
    · show mjGo _ _ 132 _ _
      refine mjGo.run 4 (pc' := 140) (F' := ([some (.ref 43), some (.int (nI i)), some (.int (nI e)), some (.int sk), some (.int (nI j)), some (.int (I 69 (100 * e + j)))], [.int (nI j), .ref 62, .int (I 69 (100 * e + j))], mjH I X)) (fun _ => rfl) ?_
      refine mjGo.op (pc' := 141) (F' := ([some (.ref 43), some (.int (nI i)), some (.int (nI e)), some (.int sk), some (.int (nI j)), some (.int (I 69 (100 * e + j)))], [.int (I 62 j), .int (I 69 (100 * e + j))], mjH I X)) (o := mjiald 141) rfl (fun _ => mjald_n (n := 16) (by omega) (by decide) (rfl) (rfl)) ?_
      refine mjGo.run 1 (pc' := (bif decide ((I 69 (100 * e + j)) = (I 62 j)) then 147 else 144)) (F' := ([some (.ref 43), some (.int (nI i)), some (.int (nI e)), some (.int sk), some (.int (nI j)), some (.int (I 69 (100 * e + j)))], [], mjH I X)) (fun _ => rfl) ?_
      refine mjGo.br (fun q2 => ?_) (fun q2 => ?_)
      · show mjGo _ _ 147 _ _
        refine mjGo.run 2 (pc' := 87) (F' := ([some (.ref 43), some (.int (nI i)), some (.int (nI e)), some (.int sk), some (.int ((nI j) + 1)), some (.int (I 69 (100 * e + j)))], [], mjH I X)) (fun _ => rfl) ?_
        have k9 := ih (j + 1) (some (.int (I 69 (100 * e + j)))) (by omega)
        rw [← nI_1] at k9
        rw [jgL, jgB_2 (v := fun j => I 69 (100 * e + j)) (g := fun j => I 62 j) q2, if_neg (by decide)]
        exact k9
      · show mjGo _ _ 144 _ _
        rw [jgL, if_pos (jgB_3 (v := fun j => I 69 (100 * e + j)) (g := fun j => I 62 j) q1 q2)]
        exact mjGo.ret 2 (fun _ => rfl) rfl
theorem c_mJgA (d : Nat) {q : Int32} {i kd wn np n9 nl lw : Nat} {I : Nat → Nat → Int32} {X : MX} (hb : MB I i kd wn np n9 nl lw) (hs : mIn q 0 7 = 0) : mjEv (d + 6) nyX12_judge [.ref 43, .int (nI i), .int q] (mjH I X) (.inl (some (.int (-1)))) (mjH I X) := by
  have ⟨ho, hn, h44, hi, m48, m51, hwn, m443⟩ := hb
  refine mjEv.of ?_
  show mjGo (d + 6) nyX12_judge 0 ([some (.ref 43), some (.int (nI i)), some (.int q), none, none, none], [], mjH I X) _
  refine mjGo.run 2 (pc' := 2) (F' := ([some (.ref 43), some (.int (nI i)), some (.int q), none, none, none], [.int (nI i), .ref 43], mjH I X)) (fun _ => rfl) ?_
  refine mjGo.call (n := 2) (j := 138) (nx := 5) (o := some (.int 1)) (h' := mjH I X) (fun _ => rfl) ((by have q := c_mIsL (d + 4) (nI i) (I := I) (X := X); rw [mIsL, h44, mIn_yes hi (by omega)] at q; exact q)) ?_
  show mjGo _ _ 5 ([some (.ref 43), some (.int (nI i)), some (.int q), none, none, none], [.int 1], mjH I X) _
  refine mjGo.run 4 (pc' := 12) (F' := ([some (.ref 43), some (.int (nI i)), some (.int q), none, none, none], [.int 7, .int 0, .int q], mjH I X)) (fun _ => rfl) ?_
  refine mjGo.call (n := 3) (j := 132) (nx := 15) (o := some (.int 0)) (h' := mjH I X) (fun _ => rfl) ((by have q9 := c_mIn (d + 5) q 0 7 (mjH I X); rw [hs] at q9; exact q9)) ?_
  show mjGo _ _ 15 ([some (.ref 43), some (.int (nI i)), some (.int q), none, none, none], [.int 0], mjH I X) _
  exact mjGo.ret 3 (fun _ => rfl) rfl
theorem c_mJgB (d : Nat) {e : Nat} {i kd wn np n9 nl lw : Nat} {I : Nat → Nat → Int32} {X : MX} (hb : MB I i kd wn np n9 nl lw) (he : e < 8) (hh : I 66 e = 0) : mjEv (d + 6) nyX12_judge [.ref 43, .int (nI i), .int (nI e)] (mjH I X) (.inl (some (.int (-11)))) (mjH I X) := by
  have ⟨ho, hn, h44, hi, m48, m51, hwn, m443⟩ := hb
  refine mjEv.of ?_
  show mjGo (d + 6) nyX12_judge 0 ([some (.ref 43), some (.int (nI i)), some (.int (nI e)), none, none, none], [], mjH I X) _
  refine mjGo.run 2 (pc' := 2) (F' := ([some (.ref 43), some (.int (nI i)), some (.int (nI e)), none, none, none], [.int (nI i), .ref 43], mjH I X)) (fun _ => rfl) ?_
  refine mjGo.call (n := 2) (j := 138) (nx := 5) (o := some (.int 1)) (h' := mjH I X) (fun _ => rfl) ((by have q := c_mIsL (d + 4) (nI i) (I := I) (X := X); rw [mIsL, h44, mIn_yes hi (by omega)] at q; exact q)) ?_
  show mjGo _ _ 5 ([some (.ref 43), some (.int (nI i)), some (.int (nI e)), none, none, none], [.int 1], mjH I X) _
  refine mjGo.run 4 (pc' := 12) (F' := ([some (.ref 43), some (.int (nI i)), some (.int (nI e)), none, none, none], [.int 7, .int 0, .int (nI e)], mjH I X)) (fun _ => rfl) ?_
  refine mjGo.call (n := 3) (j := 132) (nx := 15) (o := some (.int 1)) (h' := mjH I X) (fun _ => rfl) ((by have q9 := c_mIn (d + 5) (nI e) 0 7 (mjH I X); rw [mShelf_1 he] at q9; exact q9)) ?_
  show mjGo _ _ 15 ([some (.ref 43), some (.int (nI i)), some (.int (nI e)), none, none, none], [.int 1], mjH I X) _
  refine mjGo.run 4 (pc' := 25) (F' := ([some (.ref 43), some (.int (nI i)), some (.int (nI e)), none, none, none], [.int (nI e), .ref 66], mjH I X)) (fun _ => rfl) ?_
  refine mjGo.op (pc' := 26) (F' := ([some (.ref 43), some (.int (nI i)), some (.int (nI e)), none, none, none], [.int (I 66 e)], mjH I X)) (o := mjiald 26) rfl (fun _ => mjald_n (n := 8) (by omega) (by decide) (rfl) (rfl)) ?_
  refine mjGo.run 0 (pc' := 26) (F' := ([some (.ref 43), some (.int (nI i)), some (.int (nI e)), none, none, none], [.int (I 66 e)], mjH I X)) (fun _ => rfl) ?_
  rw [hh]
  exact mjGo.ret 3 (fun _ => rfl) rfl
theorem c_mJgC (d : Nat) {e : Nat} {i kd wn np n9 nl lw : Nat} {I : Nat → Nat → Int32} {X : MX} (hb : MB I i kd wn np n9 nl lw) (he : e < 8) (hh : I 66 e = 1) : mjEv (d + 6) nyX12_judge [.ref 43, .int (nI i), .int (nI e)] (mjH I X) (.inl (some (.int (-12)))) (mjH I X) := by
  have ⟨ho, hn, h44, hi, m48, m51, hwn, m443⟩ := hb
  refine mjEv.of ?_
  show mjGo (d + 6) nyX12_judge 0 ([some (.ref 43), some (.int (nI i)), some (.int (nI e)), none, none, none], [], mjH I X) _
  refine mjGo.run 2 (pc' := 2) (F' := ([some (.ref 43), some (.int (nI i)), some (.int (nI e)), none, none, none], [.int (nI i), .ref 43], mjH I X)) (fun _ => rfl) ?_
  refine mjGo.call (n := 2) (j := 138) (nx := 5) (o := some (.int 1)) (h' := mjH I X) (fun _ => rfl) ((by have q := c_mIsL (d + 4) (nI i) (I := I) (X := X); rw [mIsL, h44, mIn_yes hi (by omega)] at q; exact q)) ?_
  show mjGo _ _ 5 ([some (.ref 43), some (.int (nI i)), some (.int (nI e)), none, none, none], [.int 1], mjH I X) _
  refine mjGo.run 4 (pc' := 12) (F' := ([some (.ref 43), some (.int (nI i)), some (.int (nI e)), none, none, none], [.int 7, .int 0, .int (nI e)], mjH I X)) (fun _ => rfl) ?_
  refine mjGo.call (n := 3) (j := 132) (nx := 15) (o := some (.int 1)) (h' := mjH I X) (fun _ => rfl) ((by have q9 := c_mIn (d + 5) (nI e) 0 7 (mjH I X); rw [mShelf_1 he] at q9; exact q9)) ?_
  show mjGo _ _ 15 ([some (.ref 43), some (.int (nI i)), some (.int (nI e)), none, none, none], [.int 1], mjH I X) _
  refine mjGo.run 4 (pc' := 25) (F' := ([some (.ref 43), some (.int (nI i)), some (.int (nI e)), none, none, none], [.int (nI e), .ref 66], mjH I X)) (fun _ => rfl) ?_
  refine mjGo.op (pc' := 26) (F' := ([some (.ref 43), some (.int (nI i)), some (.int (nI e)), none, none, none], [.int (I 66 e)], mjH I X)) (o := mjiald 26) rfl (fun _ => mjald_n (n := 8) (by omega) (by decide) (rfl) (rfl)) ?_
  refine mjGo.run 0 (pc' := 26) (F' := ([some (.ref 43), some (.int (nI i)), some (.int (nI e)), none, none, none], [.int (I 66 e)], mjH I X)) (fun _ => rfl) ?_
  rw [hh]
  refine mjGo.run 4 (pc' := 37) (F' := ([some (.ref 43), some (.int (nI i)), some (.int (nI e)), none, none, none], [.int (nI e), .ref 66], mjH I X)) (fun _ => rfl) ?_
  refine mjGo.op (pc' := 38) (F' := ([some (.ref 43), some (.int (nI i)), some (.int (nI e)), none, none, none], [.int (I 66 e)], mjH I X)) (o := mjiald 38) rfl (fun _ => mjald_n (n := 8) (by omega) (by decide) (rfl) (rfl)) ?_
  refine mjGo.run 0 (pc' := 38) (F' := ([some (.ref 43), some (.int (nI i)), some (.int (nI e)), none, none, none], [.int (I 66 e)], mjH I X)) (fun _ => rfl) ?_
  rw [hh]
  exact mjGo.ret 4 (fun _ => rfl) rfl
theorem m_judge (d : Nat) {i kd wn np n9 nl lw e so sz : Nat} {I : Nat → Nat → Int32} {X : MX} (hb : MB I i kd wn np n9 nl lw) (he : e < 8) (hh : I 66 e = 2) (hz : I 68 e = nI sz) (hs : sz ≤ 100) (hq : I 67 e = nI so) (hso : so < 3) : mjEvP (d + 6) nyX12_judge [.ref 43, .int (nI i), .int (nI e)] (mjH I X) (fun o h2 => ∃ J, h2 = mjH J X ∧ eqO scd I J ∧ o = some (.int (jgV I (mD I np n9 (nI kd) (I 49 i) (I 50 i) wn (nI lw)).2.2.1.2 e so sz))) := by
  have ⟨ho, hn, h44, hi, m48, m51, hwn, m443⟩ := hb
  refine mjEvP.of ?_
  show mjGo (d + 6) nyX12_judge 0 ([some (.ref 43), some (.int (nI i)), some (.int (nI e)), none, none, none], [], mjH I X) _
  refine mjGo.run 2 (pc' := 2) (F' := ([some (.ref 43), some (.int (nI i)), some (.int (nI e)), none, none, none], [.int (nI i), .ref 43], mjH I X)) (fun _ => rfl) ?_
  refine mjGo.call (n := 2) (j := 138) (nx := 5) (o := some (.int 1)) (h' := mjH I X) (fun _ => rfl) ((by have q := c_mIsL (d + 4) (nI i) (I := I) (X := X); rw [mIsL, h44, mIn_yes hi (by omega)] at q; exact q)) ?_
  show mjGo _ _ 5 ([some (.ref 43), some (.int (nI i)), some (.int (nI e)), none, none, none], [.int 1], mjH I X) _
  refine mjGo.run 4 (pc' := 12) (F' := ([some (.ref 43), some (.int (nI i)), some (.int (nI e)), none, none, none], [.int 7, .int 0, .int (nI e)], mjH I X)) (fun _ => rfl) ?_
  refine mjGo.call (n := 3) (j := 132) (nx := 15) (o := some (.int 1)) (h' := mjH I X) (fun _ => rfl) ((by have q9 := c_mIn (d + 5) (nI e) 0 7 (mjH I X); rw [mShelf_1 he] at q9; exact q9)) ?_
  show mjGo _ _ 15 ([some (.ref 43), some (.int (nI i)), some (.int (nI e)), none, none, none], [.int 1], mjH I X) _
  refine mjGo.run 4 (pc' := 25) (F' := ([some (.ref 43), some (.int (nI i)), some (.int (nI e)), none, none, none], [.int (nI e), .ref 66], mjH I X)) (fun _ => rfl) ?_
  refine mjGo.op (pc' := 26) (F' := ([some (.ref 43), some (.int (nI i)), some (.int (nI e)), none, none, none], [.int (I 66 e)], mjH I X)) (o := mjiald 26) rfl (fun _ => mjald_n (n := 8) (by omega) (by decide) (rfl) (rfl)) ?_
  refine mjGo.run 0 (pc' := 26) (F' := ([some (.ref 43), some (.int (nI i)), some (.int (nI e)), none, none, none], [.int (I 66 e)], mjH I X)) (fun _ => rfl) ?_
  rw [hh]
  refine mjGo.run 4 (pc' := 37) (F' := ([some (.ref 43), some (.int (nI i)), some (.int (nI e)), none, none, none], [.int (nI e), .ref 66], mjH I X)) (fun _ => rfl) ?_
  refine mjGo.op (pc' := 38) (F' := ([some (.ref 43), some (.int (nI i)), some (.int (nI e)), none, none, none], [.int (I 66 e)], mjH I X)) (o := mjiald 38) rfl (fun _ => mjald_n (n := 8) (by omega) (by decide) (rfl) (rfl)) ?_
  refine mjGo.run 0 (pc' := 38) (F' := ([some (.ref 43), some (.int (nI i)), some (.int (nI e)), none, none, none], [.int (I 66 e)], mjH I X)) (fun _ => rfl) ?_
  rw [hh]
  refine mjGo.run 4 (pc' := 47) (F' := ([some (.ref 43), some (.int (nI i)), some (.int (nI e)), none, none, none], [.int (nI i), .ref 43], mjH I X)) (fun _ => rfl) ?_
  obtain ⟨o9, h9, hev, J, rfl, heJ, hdJ, rfl⟩ := c_mDayOf _ (X := X) hb
  refine mjGo.call (n := 2) (j := 153) (nx := 50) (o := some (.int (dyCost (mD I np n9 (nI kd) (I 49 i) (I 50 i) wn (nI lw))))) (h' := mjH J X) (fun _ => rfl) (hev) ?_
  show mjGo _ _ 50 ([some (.ref 43), some (.int (nI i)), some (.int (nI e)), none, none, none], [.int (dyCost (mD I np n9 (nI kd) (I 49 i) (I 50 i) wn (nI lw)))], mjH J X) _
  refine mjGo.run 4 (pc' := 56) (F' := ([some (.ref 43), some (.int (nI i)), some (.int (nI e)), none, none, none], [.int (nI e), .ref 67], mjH J X)) (fun _ => rfl) ?_
  refine mjGo.op (pc' := 57) (F' := ([some (.ref 43), some (.int (nI i)), some (.int (nI e)), none, none, none], [.int (J 67 e)], mjH J X)) (o := mjiald 57) rfl (fun _ => mjald_n (n := 8) (by omega) (by decide) (rfl) (rfl)) ?_
  refine mjGo.run 1 (pc' := (bif decide ((J 67 e) ≠ 0) then 65 else 60)) (F' := ([some (.ref 43), some (.int (nI i)), some (.int (nI e)), none, none, none], [], mjH J X)) (fun _ => rfl) ?_
  refine mjGo.br (fun q1 => ?_) (fun q1 => ?_)
  · show mjGo _ _ 65 _ _
    refine mjGo.run 3 (pc' := 70) (F' := ([some (.ref 43), some (.int (nI i)), some (.int (nI e)), none, none, none], [.int (nI e), .ref 67], mjH J X)) (fun _ => rfl) ?_
    refine mjGo.op (pc' := 71) (F' := ([some (.ref 43), some (.int (nI i)), some (.int (nI e)), none, none, none], [.int (J 67 e)], mjH J X)) (o := mjiald 71) rfl (fun _ => mjald_n (n := 8) (by omega) (by decide) (rfl) (rfl)) ?_
    refine mjGo.run 2 (pc' := (bif decide ((J 67 e) ≠ 1) then 81 else 75)) (F' := ([some (.ref 43), some (.int (nI i)), some (.int (nI e)), none, none, none], [], mjH J X)) (fun _ => rfl) ?_
    refine mjGo.br (fun q2 => ?_) (fun q2 => ?_)
    · show mjGo _ _ 81 _ _
      refine mjGo.run 4 (pc' := 87) (F' := ([some (.ref 43), some (.int (nI i)), some (.int (nI e)), some (.int (-2147483648)), some (.int 0), none], [], mjH J X)) (fun _ => rfl) ?_
      have hlen : (mD I np n9 (nI kd) (I 49 i) (I 50 i) wn (nI lw)).2.2.1.2.length ≤ 13 := mD_len ho hwn
      have es : so = 2 := by have q9 := q1; have q8 := q2; rw [ne_eq, show J 67 e = nI so from (heJ 67 e rfl).trans hq, show (0 : Int32) = nI 0 from rfl, nI_eq (by omega) (by omega)] at q9; rw [ne_eq, show J 67 e = nI so from (heJ 67 e rfl).trans hq, show (1 : Int32) = nI 1 from rfl, nI_eq (by omega) (by omega)] at q8; omega
      subst es
      obtain ⟨n, x, hx, rfl⟩ := m_jg_loop (d := d + 3) (i := i) (sk := (-2147483648)) (X := X) he ((heJ 68 e rfl).trans hz) hs hdJ.1.2.1 hlen rfl (min sz (mD I np n9 (nI kd) (I 49 i) (I 50 i) wn (nI lw)).2.2.1.2.length) 0 none (by omega)
      refine ⟨n, _, hx, _, rfl, J, rfl, heJ, congrArg (fun x => some (Value.int x)) ?_⟩
      unfold jgV
      refine jgL_cg _ _ fun j _ hj => ?_
      unfold jgB
      show (!decide (J 69 (100 * e + j) = (-2147483648)) && !decide (J 69 (100 * e + j) = J 62 j)) = _
      rw [show J 69 (100 * e + j) = I 69 (100 * e + j) from heJ 69 _ rfl, hdJ.1.2.2 j (by omega)]
      rfl
    · show mjGo _ _ 75 _ _
      refine mjGo.run 5 (pc' := 87) (F' := ([some (.ref 43), some (.int (nI i)), some (.int (nI e)), some (.int (-32768)), some (.int 0), none], [], mjH J X)) (fun _ => rfl) ?_
      have hlen : (mD I np n9 (nI kd) (I 49 i) (I 50 i) wn (nI lw)).2.2.1.2.length ≤ 13 := mD_len ho hwn
      have es : so = 1 := by have q9 := q2; rw [ne_eq, show J 67 e = nI so from (heJ 67 e rfl).trans hq, show (1 : Int32) = nI 1 from rfl, nI_eq (by omega) (by omega)] at q9; omega
      subst es
      obtain ⟨n, x, hx, rfl⟩ := m_jg_loop (d := d + 3) (i := i) (sk := (-32768)) (X := X) he ((heJ 68 e rfl).trans hz) hs hdJ.1.2.1 hlen rfl (min sz (mD I np n9 (nI kd) (I 49 i) (I 50 i) wn (nI lw)).2.2.1.2.length) 0 none (by omega)
      refine ⟨n, _, hx, _, rfl, J, rfl, heJ, congrArg (fun x => some (Value.int x)) ?_⟩
      unfold jgV
      refine jgL_cg _ _ fun j _ hj => ?_
      unfold jgB
      show (!decide (J 69 (100 * e + j) = (-32768)) && !decide (J 69 (100 * e + j) = J 62 j)) = _
      rw [show J 69 (100 * e + j) = I 69 (100 * e + j) from heJ 69 _ rfl, hdJ.1.2.2 j (by omega)]
      rfl
  · show mjGo _ _ 60 _ _
    refine mjGo.run 5 (pc' := 87) (F' := ([some (.ref 43), some (.int (nI i)), some (.int (nI e)), some (.int (-128)), some (.int 0), none], [], mjH J X)) (fun _ => rfl) ?_
    have hlen : (mD I np n9 (nI kd) (I 49 i) (I 50 i) wn (nI lw)).2.2.1.2.length ≤ 13 := mD_len ho hwn
    have es : so = 0 := by have q9 := q1; rw [ne_eq, show J 67 e = nI so from (heJ 67 e rfl).trans hq, show (0 : Int32) = nI 0 from rfl, nI_eq (by omega) (by omega)] at q9; omega
    subst es
    obtain ⟨n, x, hx, rfl⟩ := m_jg_loop (d := d + 3) (i := i) (sk := (-128)) (X := X) he ((heJ 68 e rfl).trans hz) hs hdJ.1.2.1 hlen rfl (min sz (mD I np n9 (nI kd) (I 49 i) (I 50 i) wn (nI lw)).2.2.1.2.length) 0 none (by omega)
    refine ⟨n, _, hx, _, rfl, J, rfl, heJ, congrArg (fun x => some (Value.int x)) ?_⟩
    unfold jgV
    refine jgL_cg _ _ fun j _ hj => ?_
    unfold jgB
    show (!decide (J 69 (100 * e + j) = (-128)) && !decide (J 69 (100 * e + j) = J 62 j)) = _
    rw [show J 69 (100 * e + j) = I 69 (100 * e + j) from heJ 69 _ rfl, hdJ.1.2.2 j (by omega)]
    rfl
def xp_judgeN (I : Nat → Nat → Int32) (k q : Int32) : Int32 := (-1)
theorem c_xp_judgeN (d : Nat) {I : Nat → Nat → Int32} {X : MX} (k q : Int32) {nl : Nat} (hn : nl ≤ 6) (h16 : I 1 6 = nI nl) (hno : mIn k 0 (nI nl - 1) = 0) : mjEv (d + 6) nyX11_judge [.ref 0, .int k, .int q] (mjH I X) (.inl (some (.int (xp_judgeN I k q)))) (mjH I X) := by
  refine mjEv.of ?_
  show mjGo (d + 6) nyX11_judge 0 ([some (.ref 0), some (.int k), some (.int q), none, none, none, none, none, none], [], mjH I X) _
  refine mjGo.run 2 (pc' := 2) (F' := ([some (.ref 0), some (.int k), some (.int q), none, none, none, none, none, none], [.int k, .ref 0], mjH I X)) (fun _ => rfl) ?_
  refine mjGo.call (n := 2) (j := 91) (nx := 5) (o := some (.null)) (h' := mjH I X) (fun _ => rfl) (c_lkNo _ hn h16 hno) ?_
  show mjGo _ _ 5 ([some (.ref 0), some (.int k), some (.int q), none, none, none, none, none, none], [.null], mjH I X) _
  have e9 : xp_judgeN I k q = (-1) := by unfold xp_judgeN; rfl
  rw [e9]
  exact mjGo.ret 5 (fun _ => rfl) rfl
def mp_judgeN (I : Nat → Nat → Int32) (k q : Int32) : Int32 := (-1)
theorem c_mp_judgeN (d : Nat) {I : Nat → Nat → Int32} {X : MX} (k q : Int32) {nl : Nat} (h44 : I 44 1 = nI nl) (hno : mIn k 0 (nI nl - 1) = 0) : mjEv (d + 6) nyX12_judge [.ref 43, .int k, .int q] (mjH I X) (.inl (some (.int (mp_judgeN I k q)))) (mjH I X) := by
  refine mjEv.of ?_
  show mjGo (d + 6) nyX12_judge 0 ([some (.ref 43), some (.int k), some (.int q), none, none, none], [], mjH I X) _
  refine mjGo.run 2 (pc' := 2) (F' := ([some (.ref 43), some (.int k), some (.int q), none, none, none], [.int k, .ref 43], mjH I X)) (fun _ => rfl) ?_
  refine mjGo.call (n := 2) (j := 138) (nx := 5) (o := some (.int 0)) (h' := mjH I X) (fun _ => rfl) ((by have q := c_mIsL (d + 4) k (I := I) (X := X); rw [mIsL, h44, hno] at q; exact q)) ?_
  show mjGo _ _ 5 ([some (.ref 43), some (.int k), some (.int q), none, none, none], [.int 0], mjH I X) _
  have e9 : mp_judgeN I k q = (-1) := by unfold mp_judgeN; rfl
  rw [e9]
  exact mjGo.ret 3 (fun _ => rfl) rfl
theorem jgV_cg {I J : Nat → Nat → Int32} {L : List Nat} {e so sz : Nat} (h : J 69 = I 69) : jgV J L e so sz = jgV I L e so sz := by
  unfold jgV
  rw [h]
theorem k_judge (d : Nat) (k q : Int32) : CALL (d + 12) nyX11_judge nyX12_judge [.ref 0, .int k, .int q] [.ref 43, .int k, .int q] := CALL.scr fun I X hR => by
  obtain ⟨np, n9, nl, lw, ho, ⟨hn, h16, h44⟩, ⟨hlw, h18, h443⟩, hlk⟩ := hR.lk
  by_cases h : mIn k 0 (nI nl - 1) = 0
  · refine ⟨_, ⟨I, X, c_xp_judgeN (d + 6) k q hn h16 h, eqN.rf, xle.rf, grw.rf⟩, fun J Y hJ e hx => ?_⟩
    have q := c_mp_judgeN (d + 6) (I := J) (X := Y) k q ((e 44 1 rfl (by omega)).trans h44) h
    exact ⟨J, q, eqN.rf⟩
  · obtain ⟨i, hi, rfl⟩ := mIn_no h (by omega)
    obtain ⟨a, kd, wn, hl⟩ := hlk i hi
    have hb : MB I i kd wn np n9 nl lw := ⟨ho.2.2.2.2.2.2, hn, h44, hi, hl.2.2.2.2.2.2.2.2.1, hl.2.2.2.2.2.2.1, hl.2.2.2.2.2.2.2.1, h443⟩
    rcases shelf_cases q with ⟨e, he, rfl⟩ | ⟨h1, h2⟩
    · obtain ⟨sz, so, hh, ⟨z1, z2⟩, ⟨s1, s2⟩, ⟨g3, g4⟩, ⟨g5, g6, g7⟩, g8, g9⟩ := hR.sh he
      match hh, g7 with
      | 0, _ => exact ⟨_, ⟨I, X, c_xJgB (d + 6) hn h16 hi hl he g3, eqN.rf, xle.rf, grw.rf⟩, fun J Y hJ q hx => ⟨J, c_mJgB (d + 6) (hb.eq q (by omega)).1 he ((q 66 e rfl (by omega)).trans g4), eqN.rf⟩⟩
      | 1, _ => exact ⟨_, ⟨I, X, c_xJgC (d + 6) hn h16 hi hl he g3, eqN.rf, xle.rf, grw.rf⟩, fun J Y hJ q hx => ⟨J, c_mJgC (d + 6) (hb.eq q (by omega)).1 he ((q 66 e rfl (by omega)).trans g4), eqN.rf⟩⟩
      | 2, _ =>
        obtain ⟨o, h9, hev, J, Y, rfl, hJ, hY, rfl⟩ := x_judge (d + 6) ho hn h16 hi hl hlw h18 he g3 z1 g5 s1 g6 g8
        refine ⟨_, ⟨J, Y, hev, eqN.of hJ scz_scr, xle_of hY, grw_of hY⟩, fun J Y hRJ q hx => ?_⟩
        obtain ⟨hb2, e49, e50, eD⟩ := hb.eq q (by omega)
        obtain ⟨o, h9, hev, L, rfl, hL, rfl⟩ := m_judge (d + 6) (X := Y) hb2 he ((q 66 e rfl (by omega)).trans g4) ((q 68 e rfl (by omega)).trans z2) g5 ((q 67 e rfl (by omega)).trans s2) g6
        rw [e49, e50, eD, jgV_cg (q.row (k := 69) (fun _ => rfl) (by omega))] at hev
        exact ⟨L, hev, eqN.of hL scd_scr⟩
    · exact ⟨_, ⟨I, X, c_xJgA (d + 6) hn h16 hi hl h1, eqN.rf, xle.rf, grw.rf⟩, fun J Y hJ q hx => ⟨J, c_mJgA (d + 6) (hb.eq q (by omega)).1 h2, eqN.rf⟩⟩
