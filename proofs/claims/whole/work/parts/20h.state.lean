/-! texts: statements, both sides -/
theorem c_mStN {d e sz p : Nat} {g : Nat → Int32} {I : Nat → Nat → Int32} {X : MX} (he : e < 8) (hs : sz ≤ 100) (hf : I 43 27 = nI (100 * e)) (ht : I 43 28 = nI sz) (gm : ∀ q, q < sz → I 69 (100 * e + q) = g q) (g0 : ∀ q, sz ≤ q → g q = 0) (hp : I 43 29 = nI p) (hb : I 43 30 = 1) (hp8 : p ≤ sz) (h1 : g p ≠ 119) (h2 : g p ≠ 107) (h3 : g p ≠ 108) (h4 : g p ≠ 112) {F : Nat → Int32} {n : Nat} : mjEvP (d + 2) nyX12_statement [.ref 43] (mjH I X) (mStP I X (g p) (p, false) F n) := by
  refine mjEvP.of ?_
  show mjGo (d + 2) nyX12_statement 0 ([some (.ref 43), none, none, none], [], mjH I X) _
  by_cases h9 : sz ≤ p
  · refine mjGo.run 4 (pc' := 8) (F' := ([some (.ref 43), none, none, none], [.int (I 43 28), .int (I 43 29)], mjH I X)) (fun _ => rfl) ?_
    refine mjGo.run 1 (pc' := (bif decide ((I 43 28) ≤ (I 43 29)) then 28 else 11)) (F' := ([some (.ref 43), none, none, none], [], mjH I X)) (fun _ => rfl) ?_
    refine mjGo.brT (show (I 43 28) ≤ (I 43 29) by rw [hp, ht, nI_leI (by omega) (by omega)]; omega) ?_
    show mjGo _ _ 28 _ _
    refine mjGo.run 7 (pc' := 37) (F' := ([some (.ref 43), some (.int 0), none, none], [.int ((I 43 29) + 1), .ref 43], mjH I X)) (fun _ => rfl) ?_
    refine mjGo.run 0 (pc' := 37) (F' := ([some (.ref 43), some (.int 0), none, none], [.int ((I 43 29) + 1), .ref 43], mjH I X)) (fun _ => rfl) ?_
    rw [show ((I 43 29) + 1) = (nI (p + 1)) from by rw [hp, nI_1]]
    refine mjGo.run 18 (pc' := 248) (F' := ([some (.ref 43), some (.int 0), none, none], [.int ((nI (p + 1)) - 1), .ref 43], mjH (mjU I 43 29 (nI (p + 1))) X)) (fun _ => rfl) ?_
    refine mjGo.run 0 (pc' := 248) (F' := ([some (.ref 43), some (.int 0), none, none], [.int ((nI (p + 1)) - 1), .ref 43], mjH (mjU I 43 29 (nI (p + 1))) X)) (fun _ => rfl) ?_
    rw [show ((nI (p + 1)) - 1) = (nI p) from by rw [← nI_1]; exact Int32.add_sub_cancel _ _]
    refine mjGo.run 6 (pc' := 259) (F' := ([some (.ref 43), some (.int 0), none, none], [.int 59, .ref 43], mjH (mjU (mjU (mjU I 43 29 (nI (p + 1))) 43 29 (nI p)) 43 30 0) X)) (fun _ => rfl) ?_
    refine mjGo.call (n := 2) (j := 180) (nx := 262) (o := none) (h' := mjH (mjU (mjU (mjU (mjU I 43 29 (nI (p + 1))) 43 29 (nI p)) 43 30 0) 43 30 0) X) (fun _ => rfl) (c_exp0 (d := d) (I := (mjU (mjU (mjU I 43 29 (nI (p + 1))) 43 29 (nI p)) 43 30 0)) rfl) ?_
    show mjGo _ _ 262 ([some (.ref 43), some (.int 0), none, none], [], mjH (mjU (mjU (mjU (mjU I 43 29 (nI (p + 1))) 43 29 (nI p)) 43 30 0) 43 30 0) X) _
    exact mjGo.ret 2 (fun _ => rfl) ⟨_, rfl, (mjU (mjU (mjU (mjU I 43 29 (nI (p + 1))) 43 29 (nI p)) 43 30 0) 43 30 0), rfl, (((((eqO.rf.put rfl).put rfl).put rfl).put rfl)), rfl, rfl, by rw [g0 p h9], fun w => by cases w⟩
  · refine mjGo.run 4 (pc' := 8) (F' := ([some (.ref 43), none, none, none], [.int (I 43 28), .int (I 43 29)], mjH I X)) (fun _ => rfl) ?_
    refine mjGo.run 1 (pc' := (bif decide ((I 43 28) ≤ (I 43 29)) then 28 else 11)) (F' := ([some (.ref 43), none, none, none], [], mjH I X)) (fun _ => rfl) ?_
    refine mjGo.brF (show ¬ (I 43 28) ≤ (I 43 29) by rw [hp, ht, nI_leI (by omega) (by omega)]; omega) ?_
    show mjGo _ _ 11 _ _
    refine mjGo.run 7 (pc' := 24) (F' := ([some (.ref 43), none, none, none], [.int ((I 43 27) + (I 43 29)), .ref 69], mjH I X)) (fun _ => rfl) ?_
    refine mjGo.run 0 (pc' := 24) (F' := ([some (.ref 43), none, none, none], [.int ((I 43 27) + (I 43 29)), .ref 69], mjH I X)) (fun _ => rfl) ?_
    rw [show ((I 43 27) + (I 43 29)) = (nI (100 * e + p)) from by rw [hf, hp, nI_add]]
    refine mjGo.op (pc' := 25) (F' := ([some (.ref 43), none, none, none], [.int (I 69 (100 * e + p))], mjH I X)) (o := mjiald 25) rfl (fun _ => mjald_n (n := 800) (by omega) (by decide) (rfl) (rfl)) ?_
    refine mjGo.run 0 (pc' := 25) (F' := ([some (.ref 43), none, none, none], [.int (I 69 (100 * e + p))], mjH I X)) (fun _ => rfl) ?_
    rw [show (I 69 (100 * e + p)) = (g p) from (gm p (by omega))]
    refine mjGo.run 7 (pc' := 37) (F' := ([some (.ref 43), some (.int (g p)), none, none], [.int ((I 43 29) + 1), .ref 43], mjH I X)) (fun _ => rfl) ?_
    refine mjGo.run 0 (pc' := 37) (F' := ([some (.ref 43), some (.int (g p)), none, none], [.int ((I 43 29) + 1), .ref 43], mjH I X)) (fun _ => rfl) ?_
    rw [show ((I 43 29) + 1) = (nI (p + 1)) from by rw [hp, nI_1]]
    refine mjGo.run 4 (pc' := (bif decide ((g p) ≠ 119) then 94 else 46)) (F' := ([some (.ref 43), some (.int (g p)), none, none], [], mjH (mjU I 43 29 (nI (p + 1))) X)) (fun _ => rfl) ?_
    refine mjGo.br (fun q1 => ?_) (fun q1 => ?_)
    · show mjGo _ _ 94 _ _
      refine mjGo.run 3 (pc' := (bif decide ((g p) ≠ 107) then 201 else 100)) (F' := ([some (.ref 43), some (.int (g p)), none, none], [], mjH (mjU I 43 29 (nI (p + 1))) X)) (fun _ => rfl) ?_
      refine mjGo.br (fun q2 => ?_) (fun q2 => ?_)
      · show mjGo _ _ 201 _ _
        refine mjGo.run 3 (pc' := (bif decide ((g p) ≠ 108) then 221 else 207)) (F' := ([some (.ref 43), some (.int (g p)), none, none], [], mjH (mjU I 43 29 (nI (p + 1))) X)) (fun _ => rfl) ?_
        refine mjGo.br (fun q3 => ?_) (fun q3 => ?_)
        · show mjGo _ _ 221 _ _
          refine mjGo.run 3 (pc' := (bif decide ((g p) ≠ 112) then 241 else 227)) (F' := ([some (.ref 43), some (.int (g p)), none, none], [], mjH (mjU I 43 29 (nI (p + 1))) X)) (fun _ => rfl) ?_
          refine mjGo.br (fun q4 => ?_) (fun q4 => ?_)
          · show mjGo _ _ 241 _ _
            refine mjGo.run 5 (pc' := 248) (F' := ([some (.ref 43), some (.int (g p)), none, none], [.int ((nI (p + 1)) - 1), .ref 43], mjH (mjU I 43 29 (nI (p + 1))) X)) (fun _ => rfl) ?_
            refine mjGo.run 0 (pc' := 248) (F' := ([some (.ref 43), some (.int (g p)), none, none], [.int ((nI (p + 1)) - 1), .ref 43], mjH (mjU I 43 29 (nI (p + 1))) X)) (fun _ => rfl) ?_
            rw [show ((nI (p + 1)) - 1) = (nI p) from by rw [← nI_1]; exact Int32.add_sub_cancel _ _]
            refine mjGo.run 6 (pc' := 259) (F' := ([some (.ref 43), some (.int (g p)), none, none], [.int 59, .ref 43], mjH (mjU (mjU (mjU I 43 29 (nI (p + 1))) 43 29 (nI p)) 43 30 0) X)) (fun _ => rfl) ?_
            refine mjGo.call (n := 2) (j := 180) (nx := 262) (o := none) (h' := mjH (mjU (mjU (mjU (mjU I 43 29 (nI (p + 1))) 43 29 (nI p)) 43 30 0) 43 30 0) X) (fun _ => rfl) (c_exp0 (d := d) (I := (mjU (mjU (mjU I 43 29 (nI (p + 1))) 43 29 (nI p)) 43 30 0)) rfl) ?_
            show mjGo _ _ 262 ([some (.ref 43), some (.int (g p)), none, none], [], mjH (mjU (mjU (mjU (mjU I 43 29 (nI (p + 1))) 43 29 (nI p)) 43 30 0) 43 30 0) X) _
            exact mjGo.ret 2 (fun _ => rfl) ⟨_, rfl, (mjU (mjU (mjU (mjU I 43 29 (nI (p + 1))) 43 29 (nI p)) 43 30 0) 43 30 0), rfl, (((((eqO.rf.put rfl).put rfl).put rfl).put rfl)), rfl, rfl, rfl, fun w => by cases w⟩
          · show mjGo _ _ 227 _ _
            first | exact absurd q4 h4 | exact absurd h4 q4 | (exfalso; simp_all; done)
        · show mjGo _ _ 207 _ _
          first | exact absurd q3 h3 | exact absurd h3 q3 | (exfalso; simp_all; done)
      · show mjGo _ _ 100 _ _
        first | exact absurd q2 h2 | exact absurd h2 q2 | (exfalso; simp_all; done)
    · show mjGo _ _ 46 _ _
      first | exact absurd q1 h1 | exact absurd h1 q1 | (exfalso; simp_all; done)
theorem fld_o {g : Nat → Int32} {p : Nat} (h : g p ≠ 107) : fld g p = fun j => (stV g p).getD j 0 := by
  funext j
  unfold fld
  rw [if_neg h]
theorem fld_107 {g : Nat → Int32} {p : Nat} (h : g p = 107) : fld g p = fun j => if j = 2 then (stV g p).getD 2 0 * (stV g p).getD 3 0 else if j = 3 then (stV g p).getD 4 0 else (stV g p).getD j 0 := by
  funext j
  unfold fld
  rw [if_pos h]
theorem c_mSt {d e sz p : Nat} {g : Nat → Int32} {I : Nat → Nat → Int32} {X : MX} (he : e < 8) (hs : sz ≤ 100) (hf : I 43 27 = nI (100 * e)) (ht : I 43 28 = nI sz) (gm : ∀ q, q < sz → I 69 (100 * e + q) = g q) (g0 : ∀ q, sz ≤ q → g q = 0) (hp : I 43 29 = nI p) (hb : I 43 30 = 1) (hp8 : p ≤ sz) : mjEvP (d + 2) nyX12_statement [.ref 43] (mjH I X) (mStP I X (g p) (stE g p) (fld g p) (fln (g p))) := by
  by_cases h1 : g p = 119
  · have q := c_mSt119 (d := d) (X := X) he hs hf ht gm g0 hp hb hp8 h1
    rw [fld_o (by rw [h1]; decide)]
    unfold stE stV
    have e : lfm (g p) = [51, 32, 50, 32, 49, 59] := by rw [h1]; rfl
    have en : fln (g p) = 3 := by rw [h1]; rfl
    rw [e, en, if_neg (by decide), h1]
    exact q
  by_cases h2 : g p = 107
  · have q := c_mSt107 (d := d) (X := X) he hs hf ht gm g0 hp hb hp8 h2
    rw [fld_107 h2]
    unfold stE stV
    have e : lfm (g p) = [49, 49, 43, 50, 32, 51, 59] := by rw [h2]; rfl
    have en : fln (g p) = 4 := by rw [h2]; rfl
    rw [e, en, if_neg (by decide), h2]
    exact q
  by_cases h3 : g p = 108
  · have q := c_mSt108 (d := d) (X := X) he hs hf ht gm g0 hp hb hp8 h3
    rw [fld_o (by rw [h3]; decide)]
    unfold stE stV
    have e : lfm (g p) = [49, 59] := by rw [h3]; rfl
    have en : fln (g p) = 1 := by rw [h3]; rfl
    rw [e, en, if_neg (by decide), h3]
    exact q
  by_cases h4 : g p = 112
  · have q := c_mSt112 (d := d) (X := X) he hs hf ht gm g0 hp hb hp8 h4
    rw [fld_o (by rw [h4]; decide)]
    unfold stE stV
    have e : lfm (g p) = [51, 59] := by rw [h4]; rfl
    have en : fln (g p) = 1 := by rw [h4]; rfl
    rw [e, en, if_neg (by decide), h4]
    exact q
  have q := c_mStN (d := d) (X := X) (F := fld g p) (n := fln (g p)) he hs hf ht gm g0 hp hb hp8 h1 h2 h3 h4
  unfold stE
  rw [lfm_no h1 h2 h3 h4, if_pos rfl]
  exact q
theorem numD_lt {g : Nat → Int32} : ∀ (n p v : Nat), (∀ i, i < n → dgt (g (p + i)) = true) → numD g n p v < (v + 1) * 10 ^ n
  | 0, _, v, _ => by rw [numD, Nat.pow_zero]; omega
  | n + 1, p, v, h => by
    rw [numD]
    have h1 := numD_lt n (p + 1) (10 * v + dval (g p)) (fun i hi => by rw [show p + 1 + i = p + (i + 1) by omega]; exact h (i + 1) (by omega))
    have h2 := (dgt_n (h 0 (by omega))).2
    rw [Nat.add_zero] at h2
    refine Nat.lt_of_lt_of_le h1 ?_
    rw [Nat.pow_succ, Nat.mul_comm (10 ^ n) 10, ← Nat.mul_assoc]
    exact Nat.mul_le_mul_right _ (by omega)
theorem vlP_b {g : Nat → Int32} {c p : Nat} (h : c = 49 ∨ c = 50 ∨ c = 51) : ∃ x, x < 1000 ∧ vlP g c p = nI x := by
  have key : ∀ m, m ≤ 3 → numD g (nDg g m p) p 0 < 1000 := fun m hm => by
    have h1 := numD_lt (nDg g m p) p 0 (fun i hi => nDg_dg hi)
    have h2 : nDg g m p ≤ 3 := by
      unfold nDg
      have := cntD_le (g := g) m p
      split <;> omega
    have h3 : 10 ^ (nDg g m p) ≤ 10 ^ 3 := Nat.pow_le_pow_right (by omega) h2
    omega
  rcases h with rfl | rfl | rfl
  · exact ⟨_, key 1 (by omega), vlD_1⟩
  · exact ⟨_, key 2 (by omega), vlD_2⟩
  · exact ⟨_, key 3 (by omega), vlD_3⟩
theorem fb_119 {g : Nat → Int32} {p : Nat} (h : g p = 119) : ∃ a b c, (a < 1000 ∧ b < 1000 ∧ c < 1000) ∧ fld g p 0 = nI a ∧ fld g p 1 = nI b ∧ fld g p 2 = nI c := by
  rw [fld_o (by rw [h]; decide)]
  unfold stV
  have e : lfm (g p) = [51, 32, 50, 32, 49, 59] := by rw [h]; rfl
  rw [e]
  obtain ⟨a, ha, e1⟩ := vlP_b (g := g) (c := 51) (p := p + 1) (by omega)
  obtain ⟨b, hb, e2⟩ := vlP_b (g := g) (c := 50) (p := p + 1 + szP g 51 (p + 1) + szP g 32 (p + 1 + szP g 51 (p + 1))) (by omega)
  obtain ⟨c, hc, e3⟩ := vlP_b (g := g) (c := 49) (p := p + 1 + szP g 51 (p + 1) + szP g 32 (p + 1 + szP g 51 (p + 1)) + szP g 50 (p + 1 + szP g 51 (p + 1) + szP g 32 (p + 1 + szP g 51 (p + 1))) + szP g 32 (p + 1 + szP g 51 (p + 1) + szP g 32 (p + 1 + szP g 51 (p + 1)) + szP g 50 (p + 1 + szP g 51 (p + 1) + szP g 32 (p + 1 + szP g 51 (p + 1))))) (by omega)
  refine ⟨a, b, c, ⟨ha, hb, hc⟩, ?_, ?_, ?_⟩
  · rw [← e1, vls, if_neg (by decide)]; rfl
  · rw [← e2, vls, if_neg (by decide), vls, if_pos (by decide), vls, if_neg (by decide)]; rfl
  · rw [← e3, vls, if_neg (by decide), vls, if_pos (by decide), vls, if_neg (by decide), vls, if_pos (by decide), vls, if_neg (by decide)]; rfl
theorem fb_108 {g : Nat → Int32} {p : Nat} (h : g p = 108) : ∃ a, a < 1000 ∧ fld g p 0 = nI a := by
  rw [fld_o (by rw [h]; decide)]
  unfold stV
  have e : lfm (g p) = [49, 59] := by rw [h]; rfl
  rw [e]
  obtain ⟨a, ha, e1⟩ := vlP_b (g := g) (c := 49) (p := p + 1) (by omega)
  exact ⟨a, ha, by rw [← e1, vls, if_neg (by decide)]; rfl⟩
theorem fb_112 {g : Nat → Int32} {p : Nat} (h : g p = 112) : ∃ a, a < 1000 ∧ fld g p 0 = nI a := by
  rw [fld_o (by rw [h]; decide)]
  unfold stV
  have e : lfm (g p) = [51, 59] := by rw [h]; rfl
  rw [e]
  obtain ⟨a, ha, e1⟩ := vlP_b (g := g) (c := 51) (p := p + 1) (by omega)
  exact ⟨a, ha, by rw [← e1, vls, if_neg (by decide)]; rfl⟩
theorem fb_107 {g : Nat → Int32} {p : Nat} (h : g p = 107) : ∃ a b c, (a < 1000 ∧ b < 1000 ∧ c < 1000) ∧ fld g p 0 = nI a ∧ fld g p 1 = nI b ∧ fld g p 3 = nI c := by
  rw [fld_107 h]
  unfold stV
  have e : lfm (g p) = [49, 49, 43, 50, 32, 51, 59] := by rw [h]; rfl
  rw [e]
  obtain ⟨q1, h1⟩ : ∃ t, t = p + 1 + szP g 49 (p + 1) := ⟨_, rfl⟩
  obtain ⟨q2, h2⟩ : ∃ t, t = q1 + szP g 49 q1 := ⟨_, rfl⟩
  obtain ⟨q3, h3⟩ : ∃ t, t = q2 + szP g 43 q2 := ⟨_, rfl⟩
  obtain ⟨q4, h4⟩ : ∃ t, t = q3 + szP g 50 q3 := ⟨_, rfl⟩
  obtain ⟨q5, h5⟩ : ∃ t, t = q4 + szP g 32 q4 := ⟨_, rfl⟩
  obtain ⟨a, ha, e1⟩ := vlP_b (g := g) (c := 49) (p := p + 1) (by omega)
  obtain ⟨b, hb, e2⟩ := vlP_b (g := g) (c := 49) (p := q1) (by omega)
  obtain ⟨c, hc, e3⟩ := vlP_b (g := g) (c := 51) (p := q5) (by omega)
  have ev : vls g [49, 49, 43, 50, 32, 51, 59] (p + 1) = [nI a, nI b, vlP g 43 q2, vlP g 50 q3, nI c] := by rw [vls, if_neg (by decide), ← h1, vls, if_neg (by decide), ← h2, vls, if_neg (by decide), ← h3, vls, if_neg (by decide), ← h4, vls, if_pos (by decide), ← h5, vls, if_neg (by decide), vls, if_pos (by decide), vls, e1, e2, e3]
  rw [ev]
  exact ⟨a, b, c, ⟨ha, hb, hc⟩, rfl, rfl, rfl⟩
