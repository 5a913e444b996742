/-! town: both -/
theorem c_mTnA (d : Nat) {p : Int32} {I : Nat → Nat → Int32} {X : MX} (hs : mIn p 0 7 = 0) : mjEv (d + 4) nyX12_town [.ref 43, .int p] (mjH I X) (.inl (some (.int (-1)))) (mjH I X) := by
  refine mjEv.of ?_
  show mjGo (d + 4) nyX12_town 0 ([some (.ref 43), some (.int p)], [], mjH I X) _
  refine mjGo.run 3 (pc' := 4) (F' := ([some (.ref 43), some (.int p)], [.int 7, .int 0, .int p], mjH I X)) (fun _ => rfl) ?_
  refine mjGo.call (n := 3) (j := 132) (nx := 7) (o := some (.int 0)) (h' := mjH I X) (fun _ => rfl) ((by have q9 := c_mIn (d + 3) p 0 7 (mjH I X); rw [hs] at q9; exact q9)) ?_
  show mjGo _ _ 7 ([some (.ref 43), some (.int p)], [.int 0], mjH I X) _
  exact mjGo.ret 3 (fun _ => rfl) rfl
theorem c_mTnB (d : Nat) {e : Nat} {I : Nat → Nat → Int32} {X : MX} (he : e < 8) (hh : I 66 e = 0) : mjEv (d + 4) nyX12_town [.ref 43, .int (nI e)] (mjH I X) (.inl (some (.int (-11)))) (mjH I X) := by
  refine mjEv.of ?_
  show mjGo (d + 4) nyX12_town 0 ([some (.ref 43), some (.int (nI e))], [], mjH I X) _
  refine mjGo.run 3 (pc' := 4) (F' := ([some (.ref 43), some (.int (nI e))], [.int 7, .int 0, .int (nI e)], mjH I X)) (fun _ => rfl) ?_
  refine mjGo.call (n := 3) (j := 132) (nx := 7) (o := some (.int 1)) (h' := mjH I X) (fun _ => rfl) ((by have q9 := c_mIn (d + 3) (nI e) 0 7 (mjH I X); rw [mShelf_1 he] at q9; exact q9)) ?_
  show mjGo _ _ 7 ([some (.ref 43), some (.int (nI e))], [.int 1], mjH I X) _
  refine mjGo.run 4 (pc' := 17) (F' := ([some (.ref 43), some (.int (nI e))], [.int (nI e), .ref 66], mjH I X)) (fun _ => rfl) ?_
  refine mjGo.op (pc' := 18) (F' := ([some (.ref 43), some (.int (nI e))], [.int (I 66 e)], mjH I X)) (o := mjiald 18) rfl (fun _ => mjald_n (n := 8) (by omega) (by decide) (rfl) (rfl)) ?_
  refine mjGo.run 0 (pc' := 18) (F' := ([some (.ref 43), some (.int (nI e))], [.int (I 66 e)], mjH I X)) (fun _ => rfl) ?_
  rw [hh]
  exact mjGo.ret 3 (fun _ => rfl) rfl
theorem c_mTnC (d : Nat) {e : Nat} {I : Nat → Nat → Int32} {X : MX} (he : e < 8) (hh : I 66 e = 1) : mjEv (d + 4) nyX12_town [.ref 43, .int (nI e)] (mjH I X) (.inl (some (.int (-12)))) (mjH I X) := by
  refine mjEv.of ?_
  show mjGo (d + 4) nyX12_town 0 ([some (.ref 43), some (.int (nI e))], [], mjH I X) _
  refine mjGo.run 3 (pc' := 4) (F' := ([some (.ref 43), some (.int (nI e))], [.int 7, .int 0, .int (nI e)], mjH I X)) (fun _ => rfl) ?_
  refine mjGo.call (n := 3) (j := 132) (nx := 7) (o := some (.int 1)) (h' := mjH I X) (fun _ => rfl) ((by have q9 := c_mIn (d + 3) (nI e) 0 7 (mjH I X); rw [mShelf_1 he] at q9; exact q9)) ?_
  show mjGo _ _ 7 ([some (.ref 43), some (.int (nI e))], [.int 1], mjH I X) _
  refine mjGo.run 4 (pc' := 17) (F' := ([some (.ref 43), some (.int (nI e))], [.int (nI e), .ref 66], mjH I X)) (fun _ => rfl) ?_
  refine mjGo.op (pc' := 18) (F' := ([some (.ref 43), some (.int (nI e))], [.int (I 66 e)], mjH I X)) (o := mjiald 18) rfl (fun _ => mjald_n (n := 8) (by omega) (by decide) (rfl) (rfl)) ?_
  refine mjGo.run 0 (pc' := 18) (F' := ([some (.ref 43), some (.int (nI e))], [.int (I 66 e)], mjH I X)) (fun _ => rfl) ?_
  rw [hh]
  refine mjGo.run 4 (pc' := 29) (F' := ([some (.ref 43), some (.int (nI e))], [.int (nI e), .ref 66], mjH I X)) (fun _ => rfl) ?_
  refine mjGo.op (pc' := 30) (F' := ([some (.ref 43), some (.int (nI e))], [.int (I 66 e)], mjH I X)) (o := mjiald 30) rfl (fun _ => mjald_n (n := 8) (by omega) (by decide) (rfl) (rfl)) ?_
  refine mjGo.run 0 (pc' := 30) (F' := ([some (.ref 43), some (.int (nI e))], [.int (I 66 e)], mjH I X)) (fun _ => rfl) ?_
  rw [hh]
  exact mjGo.ret 4 (fun _ => rfl) rfl
theorem c_mTnD (d : Nat) {e : Nat} {I : Nat → Nat → Int32} {X : MX} (he : e < 8) (hh : I 66 e = 2) (hq : ¬ I 67 e = 0) : mjEv (d + 4) nyX12_town [.ref 43, .int (nI e)] (mjH I X) (.inl (some (.int (-12)))) (mjH I X) := by
  refine mjEv.of ?_
  show mjGo (d + 4) nyX12_town 0 ([some (.ref 43), some (.int (nI e))], [], mjH I X) _
  refine mjGo.run 3 (pc' := 4) (F' := ([some (.ref 43), some (.int (nI e))], [.int 7, .int 0, .int (nI e)], mjH I X)) (fun _ => rfl) ?_
  refine mjGo.call (n := 3) (j := 132) (nx := 7) (o := some (.int 1)) (h' := mjH I X) (fun _ => rfl) ((by have q9 := c_mIn (d + 3) (nI e) 0 7 (mjH I X); rw [mShelf_1 he] at q9; exact q9)) ?_
  show mjGo _ _ 7 ([some (.ref 43), some (.int (nI e))], [.int 1], mjH I X) _
  refine mjGo.run 4 (pc' := 17) (F' := ([some (.ref 43), some (.int (nI e))], [.int (nI e), .ref 66], mjH I X)) (fun _ => rfl) ?_
  refine mjGo.op (pc' := 18) (F' := ([some (.ref 43), some (.int (nI e))], [.int (I 66 e)], mjH I X)) (o := mjiald 18) rfl (fun _ => mjald_n (n := 8) (by omega) (by decide) (rfl) (rfl)) ?_
  refine mjGo.run 0 (pc' := 18) (F' := ([some (.ref 43), some (.int (nI e))], [.int (I 66 e)], mjH I X)) (fun _ => rfl) ?_
  rw [hh]
  refine mjGo.run 4 (pc' := 29) (F' := ([some (.ref 43), some (.int (nI e))], [.int (nI e), .ref 66], mjH I X)) (fun _ => rfl) ?_
  refine mjGo.op (pc' := 30) (F' := ([some (.ref 43), some (.int (nI e))], [.int (I 66 e)], mjH I X)) (o := mjiald 30) rfl (fun _ => mjald_n (n := 8) (by omega) (by decide) (rfl) (rfl)) ?_
  refine mjGo.run 0 (pc' := 30) (F' := ([some (.ref 43), some (.int (nI e))], [.int (I 66 e)], mjH I X)) (fun _ => rfl) ?_
  rw [hh]
  refine mjGo.run 5 (pc' := 39) (F' := ([some (.ref 43), some (.int (nI e))], [.int (nI e), .ref 67], mjH I X)) (fun _ => rfl) ?_
  refine mjGo.op (pc' := 40) (F' := ([some (.ref 43), some (.int (nI e))], [.int (I 67 e)], mjH I X)) (o := mjiald 40) rfl (fun _ => mjald_n (n := 8) (by omega) (by decide) (rfl) (rfl)) ?_
  refine mjGo.run 1 (pc' := (bif decide ((I 67 e) = 0) then 46 else 43)) (F' := ([some (.ref 43), some (.int (nI e))], [], mjH I X)) (fun _ => rfl) ?_
  refine mjGo.brF (hq) ?_
  show mjGo _ _ 43 _ _
  exact mjGo.ret 2 (fun _ => rfl) rfl
theorem c_mTown (d : Nat) {e sz : Nat} {g : Nat → Int32} {s : TS} {I : Nat → Nat → Int32} {X : MX} (he : e < 8) (hh : I 66 e = 2) (hq : I 67 e = 0) (hz : I 68 e = nI sz) (hs : sz ≤ 100) (gm : ∀ q, q < sz → I 69 (100 * e + q) = g q) (g0 : ∀ q, sz ≤ q → g q = 0) (hVB : VB s) (hV : ∀ k, 44 ≤ k → k ≤ 52 → I k = s.1 k) : mjEvP (d + 4) nyX12_town [.ref 43, .int (nI e)] (mjH I X) (mTwP (mjU (mjU I 43 27 (nI (100 * e))) 43 28 (nI sz)) X g sz s) := by
  have hV2 : ∀ k, 44 ≤ k → k ≤ 52 → (mjU (mjU I 43 27 (nI (100 * e))) 43 28 (nI sz)) k = s.1 k := fun k h1 h2 => by rw [mjU_r (by omega), mjU_r (by omega)]; exact hV k h1 h2
  obtain ⟨o9, h9, hev, J, rfl, rfl, hR⟩ := c_mRead (d := d) (I := (mjU (mjU I 43 27 (nI (100 * e))) 43 28 (nI sz))) (X := X) (s := s) he hs rfl rfl gm g0 hVB hV2
  refine mjEvP.of ?_
  show mjGo (d + 4) nyX12_town 0 ([some (.ref 43), some (.int (nI e))], [], mjH I X) _
  refine mjGo.run 3 (pc' := 4) (F' := ([some (.ref 43), some (.int (nI e))], [.int 7, .int 0, .int (nI e)], mjH I X)) (fun _ => rfl) ?_
  refine mjGo.call (n := 3) (j := 132) (nx := 7) (o := some (.int 1)) (h' := mjH I X) (fun _ => rfl) ((by have q9 := c_mIn (d + 3) (nI e) 0 7 (mjH I X); rw [mShelf_1 he] at q9; exact q9)) ?_
  show mjGo _ _ 7 ([some (.ref 43), some (.int (nI e))], [.int 1], mjH I X) _
  refine mjGo.run 4 (pc' := 17) (F' := ([some (.ref 43), some (.int (nI e))], [.int (nI e), .ref 66], mjH I X)) (fun _ => rfl) ?_
  refine mjGo.op (pc' := 18) (F' := ([some (.ref 43), some (.int (nI e))], [.int (I 66 e)], mjH I X)) (o := mjiald 18) rfl (fun _ => mjald_n (n := 8) (by omega) (by decide) (rfl) (rfl)) ?_
  refine mjGo.run 0 (pc' := 18) (F' := ([some (.ref 43), some (.int (nI e))], [.int (I 66 e)], mjH I X)) (fun _ => rfl) ?_
  rw [hh]
  refine mjGo.run 4 (pc' := 29) (F' := ([some (.ref 43), some (.int (nI e))], [.int (nI e), .ref 66], mjH I X)) (fun _ => rfl) ?_
  refine mjGo.op (pc' := 30) (F' := ([some (.ref 43), some (.int (nI e))], [.int (I 66 e)], mjH I X)) (o := mjiald 30) rfl (fun _ => mjald_n (n := 8) (by omega) (by decide) (rfl) (rfl)) ?_
  refine mjGo.run 0 (pc' := 30) (F' := ([some (.ref 43), some (.int (nI e))], [.int (I 66 e)], mjH I X)) (fun _ => rfl) ?_
  rw [hh]
  refine mjGo.run 5 (pc' := 39) (F' := ([some (.ref 43), some (.int (nI e))], [.int (nI e), .ref 67], mjH I X)) (fun _ => rfl) ?_
  refine mjGo.op (pc' := 40) (F' := ([some (.ref 43), some (.int (nI e))], [.int (I 67 e)], mjH I X)) (o := mjiald 40) rfl (fun _ => mjald_n (n := 8) (by omega) (by decide) (rfl) (rfl)) ?_
  refine mjGo.run 1 (pc' := (bif decide ((I 67 e) = 0) then 46 else 43)) (F' := ([some (.ref 43), some (.int (nI e))], [], mjH I X)) (fun _ => rfl) ?_
  refine mjGo.brT (hq) ?_
  show mjGo _ _ 46 _ _
  refine mjGo.run 4 (pc' := 51) (F' := ([some (.ref 43), some (.int (nI e))], [.int (100 * (nI e)), .ref 43], mjH I X)) (fun _ => rfl) ?_
  refine mjGo.run 0 (pc' := 51) (F' := ([some (.ref 43), some (.int (nI e))], [.int (100 * (nI e)), .ref 43], mjH I X)) (fun _ => rfl) ?_
  rw [show (100 * (nI e)) = (nI (100 * e)) from nI_mul 100 e]
  refine mjGo.run 5 (pc' := 60) (F' := ([some (.ref 43), some (.int (nI e))], [.int (nI e), .ref 68, .ref 43], mjH (mjU I 43 27 (nI (100 * e))) X)) (fun _ => rfl) ?_
  refine mjGo.op (pc' := 61) (F' := ([some (.ref 43), some (.int (nI e))], [.int (I 68 e), .ref 43], mjH (mjU I 43 27 (nI (100 * e))) X)) (o := mjiald 61) rfl (fun _ => mjald_n (n := 8) (by omega) (by decide) (rfl) (rfl)) ?_
  refine mjGo.run 0 (pc' := 61) (F' := ([some (.ref 43), some (.int (nI e))], [.int (I 68 e), .ref 43], mjH (mjU I 43 27 (nI (100 * e))) X)) (fun _ => rfl) ?_
  rw [show (I 68 e) = (nI sz) from hz]
  refine mjGo.run 2 (pc' := 65) (F' := ([some (.ref 43), some (.int (nI e))], [.ref 43], mjH (mjU (mjU I 43 27 (nI (100 * e))) 43 28 (nI sz)) X)) (fun _ => rfl) ?_
  refine mjGo.call (n := 1) (j := 186) (nx := 68) (o := some (.int (twA g sz s))) (h' := mjH J X) (fun _ => rfl) (hev) ?_
  show mjGo _ _ 68 ([some (.ref 43), some (.int (nI e))], [.int (twA g sz s)], mjH J X) _
  exact mjGo.ret 1 (fun _ => rfl) ⟨_, rfl, J, rfl, rfl, hR⟩
theorem c_xTnA (d : Nat) {p : Int32} {I : Nat → Nat → Int32} {X : MX} (hs : xShelf p = 0) : mjEv (d + 4) nyX11_town [.ref 0, .int p] (mjH I X) (.inl (some (.int (-1)))) (mjH I X) := by
  refine mjEv.of ?_
  show mjGo (d + 4) nyX11_town 0 ([some (.ref 0), some (.int p), none, none, none, none, none, none], [], mjH I X) _
  refine mjGo.run 3 (pc' := 3) (F' := ([some (.ref 0), some (.int p), none, none, none, none, none, none], [.int 0, .int p, .ref 0], mjH I X)) (fun _ => rfl) ?_
  refine mjGo.call (n := 3) (j := 78) (nx := 6) (o := some (.int (-1))) (h' := mjH I X) (fun _ => rfl) (c_rrA _ hs) ?_
  show mjGo _ _ 6 ([some (.ref 0), some (.int p), none, none, none, none, none, none], [.int (-1)], mjH I X) _
  exact mjGo.ret 5 (fun _ => rfl) rfl
theorem c_xTnB (d : Nat) {e : Nat} {I : Nat → Nat → Int32} {X : MX} (he : e < 8) (hh : I 24 e = 0) : mjEv (d + 4) nyX11_town [.ref 0, .int (nI e)] (mjH I X) (.inl (some (.int (-11)))) (mjH I X) := by
  refine mjEv.of ?_
  show mjGo (d + 4) nyX11_town 0 ([some (.ref 0), some (.int (nI e)), none, none, none, none, none, none], [], mjH I X) _
  refine mjGo.run 3 (pc' := 3) (F' := ([some (.ref 0), some (.int (nI e)), none, none, none, none, none, none], [.int 0, .int (nI e), .ref 0], mjH I X)) (fun _ => rfl) ?_
  refine mjGo.call (n := 3) (j := 78) (nx := 6) (o := some (.int (-11))) (h' := mjH I X) (fun _ => rfl) (c_rrB _ he hh) ?_
  show mjGo _ _ 6 ([some (.ref 0), some (.int (nI e)), none, none, none, none, none, none], [.int (-11)], mjH I X) _
  exact mjGo.ret 5 (fun _ => rfl) rfl
theorem c_xTnC (d : Nat) {e : Nat} {I : Nat → Nat → Int32} {X : MX} (he : e < 8) (hh : I 24 e = 1) : mjEv (d + 4) nyX11_town [.ref 0, .int (nI e)] (mjH I X) (.inl (some (.int (-12)))) (mjH I X) := by
  refine mjEv.of ?_
  show mjGo (d + 4) nyX11_town 0 ([some (.ref 0), some (.int (nI e)), none, none, none, none, none, none], [], mjH I X) _
  refine mjGo.run 3 (pc' := 3) (F' := ([some (.ref 0), some (.int (nI e)), none, none, none, none, none, none], [.int 0, .int (nI e), .ref 0], mjH I X)) (fun _ => rfl) ?_
  refine mjGo.call (n := 3) (j := 78) (nx := 6) (o := some (.int (-12))) (h' := mjH I X) (fun _ => rfl) (c_rrC _ he hh) ?_
  show mjGo _ _ 6 ([some (.ref 0), some (.int (nI e)), none, none, none, none, none, none], [.int (-12)], mjH I X) _
  exact mjGo.ret 5 (fun _ => rfl) rfl
theorem c_xTnD (d : Nat) {e : Nat} {I : Nat → Nat → Int32} {X : MX} (he : e < 8) (hh : I 24 e = 2) (hq : ¬ I (27 + 2 * e) 1 = 0) : mjEv (d + 4) nyX11_town [.ref 0, .int (nI e)] (mjH I X) (.inl (some (.int (-12)))) (mjH I X) := by
  refine mjEv.of ?_
  show mjGo (d + 4) nyX11_town 0 ([some (.ref 0), some (.int (nI e)), none, none, none, none, none, none], [], mjH I X) _
  refine mjGo.run 3 (pc' := 3) (F' := ([some (.ref 0), some (.int (nI e)), none, none, none, none, none, none], [.int 0, .int (nI e), .ref 0], mjH I X)) (fun _ => rfl) ?_
  refine mjGo.call (n := 3) (j := 78) (nx := 6) (o := some (.int (-12))) (h' := mjH I X) (fun _ => rfl) (c_rrF _ he hh (by decide) hq) ?_
  show mjGo _ _ 6 ([some (.ref 0), some (.int (nI e)), none, none, none, none, none, none], [.int (-12)], mjH I X) _
  exact mjGo.ret 5 (fun _ => rfl) rfl
theorem mR_eqN {I V J : Nat → Nat → Int32} {n m e sz : Nat} (h : mR (mjU (mjU I 43 27 (nI (100 * e))) 43 28 (nI sz)) V J) (hV : ∀ k, 44 ≤ k → k ≤ 52 → I k = V k) : eqN n I J := fun k j hk _ => by
  by_cases w : 44 ≤ k ∧ k ≤ 52
  · rw [h.1 k w.1 w.2, hV k w.1 w.2]
  · have hq : scq k j = false := by
      cases z : scq k j
      · rfl
      · unfold scq at z
        have hk2 : scr k j = true := by
          rw [Bool.or_eq_true, Bool.and_eq_true, Bool.or_eq_true, beq_iff_eq, beq_iff_eq, beq_iff_eq, beq_iff_eq] at z
          rcases z with ⟨rfl, rfl | rfl⟩ | rfl <;> rfl
        rw [hk] at hk2
        cases hk2
    rw [h.2 k j (by omega) hq]
    by_cases z : k = 43
    · subst z
      by_cases z2 : j = 28
      · subst z2
        exact absurd hk (by decide)
      · rw [mjU_ne2 z2]
        by_cases z3 : j = 27
        · subst z3
          exact absurd hk (by decide)
        · rw [mjU_ne2 z3]
    · rw [mjU_r z, mjU_r z]
theorem town_RI {I J J5 : Nat → Nat → Int32} {X Y : MX} {s2 : TS} {n0 e sz : Nat} (h : RI I X) (hVB : VB s2) (hD : dR I X n0 s2 J Y) (hR : mR (mjU (mjU (bcI1_7 J) 43 27 (nI (100 * e))) 43 28 (nI sz)) s2.1 J5) : RI J5 (cpP Y 5 11 6) := by
  obtain ⟨⟨np, n9, nl, lw, h1⟩, ⟨b1, b2, b3, b4, h2⟩, h3, h4, hA⟩ := h
  obtain ⟨⟨c1, c2, c3, l9, c4, c5, c6⟩, d2, d3, ⟨d4, d4p⟩, d5, d6, d7, d8, _, d10, d11⟩ := hD
  obtain ⟨⟨v1, v2, v3⟩, u1, u2, u3⟩ := hVB
  have r1 := h1.2.2.2.2.1
  have bc : ∀ k, (k < 1 ∨ 6 < k) → bcI1_7 J k = J k := fun k hk => by
    unfold bcI1_7
    rw [mjU_r (by omega), mjU_r (by omega), mjU_r (by omega), mjU_r (by omega), mjR_ne (by omega), mjR_ne (by omega), mjR_ne (by omega), mjR_ne (by omega)]
  have key : ∀ k, k < 44 ∨ 52 < k → k ≠ 43 → k ≠ 65 → J5 k = bcI1_7 J k := fun k hk hk2 hk3 => by
    funext j
    rw [hR.2 k j hk (by
      unfold scq
      have e1 : (k == 43) = false := by simp; omega
      have e2 : (k == 65) = false := by simp; omega
      rw [e1, e2]
      rfl), mjU_r hk2, mjU_r hk2]
  have keyI : ∀ k, k < X.2.2.2.1 + 75 → (k = 0 ∨ 12 < k) → k ≠ 22 → (k < 44 ∨ 52 < k) → k ≠ 43 → k ≠ 65 → J5 k = I k := fun k k1 k2 k3 k4 k5 k6 => by
    rw [key k k4 k5 k6, bc k (by omega)]
    funext j
    exact d7 k j k1 (by omega) k3
  have hxle : ∀ k j, k = 17 ∨ k = 25 → (cpP Y 5 11 6).1 k j = X.1 k j := fun k j hk => by
    rw [cpP_r (by omega)]
    exact d8.1 k j (by omega)
  have hxfr : xfr X (cpP Y 5 11 6) := ⟨d8.2.1, d8.2.2⟩
  have k1 := key 1 (by omega) (by omega) (by omega)
  have row : ∀ (t m : Nat) (f : Nat → Int32), (∀ j, f j = I t j) → I t = I m → (∀ j, 5 ≤ j → s2.1 m j = I m j) → ∀ (g9 : Nat → Int32), (∀ j, j < 5 → g9 j = s2.1 m j) → va_cpy g9 f 0 0 5 = s2.1 m := fun t m f hf hI hV g9 hg => by
    funext j
    unfold va_cpy
    by_cases w : 0 ≤ j ∧ j < 0 + 5
    · rw [if_pos w, show 0 + (j - 0) = j by omega, hg j (by omega)]
    · rw [if_neg w, hf, hI, hV j (by omega)]
  have row8 : ∀ (t m : Nat) (f : Nat → Int32), (∀ j, f j = I t j) → I t = I m → (∀ j, 8 ≤ j → s2.1 m j = I m j) → ∀ (g9 : Nat → Int32), (∀ j, j < 8 → g9 j = s2.1 m j) → va_cpy g9 f 0 0 8 = s2.1 m := fun t m f hf hI hV g9 hg => by
    funext j
    unfold va_cpy
    by_cases w : 0 ≤ j ∧ j < 0 + 8
    · rw [if_pos w, show 0 + (j - 0) = j by omega, hg j (by omega)]
    · rw [if_neg w, hf, hI, hV j (by omega)]
  have J2 : ∀ k, k = 2 ∨ k = 3 ∨ k = 4 ∨ k = 6 → ∀ j, J k j = I k j := fun k hk j => d7 k j (by omega) (by omega) (by omega)
  have e2 : J5 2 = s2.1 45 := (key 2 (by omega) (by omega) (by omega)).trans (row 2 45 (J 2) (J2 2 (by omega)) r1.1 (fun j hj => (d10 j hj).1) (J 8) (fun j hj => (d2 j hj).1))
  have e3 : J5 3 = s2.1 46 := (key 3 (by omega) (by omega) (by omega)).trans (row 3 46 (J 3) (J2 3 (by omega)) r1.2.1 (fun j hj => (d10 j hj).2.1) (J 9) (fun j hj => (d2 j hj).2.1))
  have e4 : J5 4 = s2.1 47 := (key 4 (by omega) (by omega) (by omega)).trans (row 4 47 (J 4) (J2 4 (by omega)) r1.2.2.1 (fun j hj => (d10 j hj).2.2) (J 10) (fun j hj => (d2 j hj).2.2))
  have e6 : J5 6 = s2.1 52 := (key 6 (by omega) (by omega) (by omega)).trans (row8 6 52 (J 6) (J2 6 (by omega)) r1.2.2.2 d11 (J 12) d3)
  have m0 := hR.1 44 (by omega) (by omega)
  have mm : ∀ k, 44 ≤ k → k ≤ 52 → J5 k = s2.1 k := hR.1
  refine ⟨⟨s2.2.2.2, s2.2.1, s2.2.2.1, l9, ?_⟩, ⟨b1, b2, b3, b4, h2.fr (fun k q => keyI k (by unfold tRw at q; omega) (by unfold tRw at q; omega) (by unfold tRw at q; omega) (by unfold tRw at q; omega) (by unfold tRw at q; omega) (by unfold tRw at q; omega)) (fun k q q2 => keyI k q2 (by omega) (by omega) (by omega) (by omega) (by omega)) (fun j => hxle 17 j (by omega)) hxfr⟩, fun e9 he9 => ?_, ?_, fun k i hk hi => ?_⟩
  · unfold tR
    show (_ = _ ∧ _ = _) ∧ (_ = _ ∧ _ = _) ∧ (_ = _ ∧ _ = _) ∧ (_ = _ ∧ _ = _) ∧ (J5 2 = J5 45 ∧ J5 3 = J5 46 ∧ J5 4 = J5 47 ∧ J5 6 = J5 52) ∧ okW (J5 45) (J5 46) _ ∧ okP (J5 52) _ ∧ _
    rw [e2, e3, e4, e6, mm 45 (by omega) (by omega), mm 46 (by omega) (by omega), mm 47 (by omega) (by omega), mm 52 (by omega) (by omega), k1, m0]
    refine ⟨⟨c1, v1⟩, ⟨c2, v2⟩, ⟨c3, v3⟩, ⟨c5, c6⟩, ⟨rfl, rfl, rfl, rfl⟩, d4, d4p, u2, c4, fun i hi => ?_⟩
    obtain ⟨a, kd, wn, q0, qK, q1, q2, q3, q4, q5, q6, q7, q8⟩ := d5 i hi
    refine ⟨a, kd, wn, ?_⟩
    unfold lkR
    show (cpP Y 5 11 6).1 5 i = _ ∧ lkK (cpP Y 5 11 6) a kd ∧ _ ∧ _ = J5 49 i ∧ _ = J5 50 i ∧ _ ∧ J5 51 i = _ ∧ _ ∧ J5 48 i = _ ∧ -20 ≤ (J5 50 i).toInt ∧ (J5 50 i).toInt ≤ 20
    have ha := qK.1
    rw [cpP_k (by omega), key a (by omega) (by omega) (by omega), bc a (by omega), mm 49 (by omega) (by omega), mm 50 (by omega) (by omega), mm 51 (by omega) (by omega), mm 48 (by omega) (by omega)]
    exact ⟨q0, qK, q1, q2, q3, q4, q5, q6, q7, q8⟩
  · obtain ⟨sz9, so, hh, h6⟩ := h3 e9 he9
    exact ⟨sz9, so, hh, h6.fr (fun k q => keyI k (by unfold sRw at q; omega) (by unfold sRw at q; omega) (by unfold sRw at q; omega) (by unfold sRw at q; omega) (by unfold sRw at q; omega) (by unfold sRw at q; omega)) (fun k q q2 => keyI k q2 (by omega) (by omega) (by omega) (by omega) (by omega)) (fun j => hxle 25 j (by omega)) hxfr⟩
  · rw [keyI 0 (by omega) (by omega) (by omega) (by omega) (by omega) (by omega), hR.2 43 9 (by omega) rfl]
    show (_ = J 43 9 ∧ _)
    rw [d7 43 9 (by omega) (by omega) (by omega)]
    exact h4
  · rcases hk with rfl | rfl
    · rw [cpP_k hi]
      exact d6 i hi
    · rw [hxle 17 i (by omega)]
      rcases hA 17 i (Or.inr rfl) hi with q | ⟨a, kd, q1, q2⟩
      · exact Or.inl q
      · exact Or.inr ⟨a, kd, q1, q2.le (Y := Y) d8⟩
theorem k_town (d : Nat) (q : Int32) : CALL (d + 12) nyX11_town nyX12_town [.ref 0, .int q] [.ref 43, .int q] := fun I X hR hN => by
  rcases shelf_cases q with ⟨e, he, rfl⟩ | ⟨w1, w2⟩
  · obtain ⟨sz, so, hh, ⟨z1, z2⟩, ⟨s1, s2⟩, ⟨g3, g4⟩, ⟨g5, g6, g7⟩, g8, g9⟩ := hR.sh he
    match hh, g7 with
    | 0, _ => exact ⟨_, _, X, c_xTnB (d + 8) he g3, _, X, c_mTnB (d + 8) he g4, hR, grw.rf⟩
    | 1, _ => exact ⟨_, _, X, c_xTnC (d + 8) he g3, _, X, c_mTnC (d + 8) he g4, hR, grw.rf⟩
    | 2, _ =>
      by_cases hso : so = 0
      · subst hso
        obtain ⟨np, n9, nl, lw, hT⟩ := hR.1
        obtain ⟨g, hgd⟩ : ∃ g : Nat → Int32, g = fun p => if p < sz then I 69 (100 * e + p) else 0 := ⟨_, rfl⟩
        have g0 : ∀ q, sz ≤ q → g q = 0 := fun q hq => by rw [hgd]; exact if_neg (by omega)
        have gm : ∀ q, q < sz → I 69 (100 * e + q) = g q := fun q hq => by rw [hgd]; exact (if_pos hq).symm
        have hg : gOf I e g := fun p hp => by
          by_cases w : p < sz
          · rw [xVal_in z1 g5 w, g8 p (by omega), gm p w]
          · rw [xVal_out z1 g5 (by omega) (by omega), g0 p (by omega)]
        have hVB : VB (I, n9, nl, np) := ⟨⟨hT.1.2, hT.2.1.2, hT.2.2.1.2⟩, hT.2.2.2.2.2.1.1, hT.2.2.2.2.2.2.2.1, hT.2.2.2.2.2.2.1.1⟩
        obtain ⟨o9, h9, hev, rfl, hcase⟩ := x_town (d + 5) hT hR.2.2.2.2 hN he g3 s1 z1 g5 hg g0
        rcases hcase with ⟨e1, J, Y, rfl, hE, hx, hgw⟩ | ⟨J, Y, rfl, hVB2, hD⟩
        · have hRJ := hR.eq hE hx
          obtain ⟨o9, h9, hev2, J5, rfl, rfl, hR5⟩ := c_mTown (d + 8) (I := J) (X := Y) (s := (I, n9, nl, np)) he ((hE 66 e rfl (by omega)).trans g4) ((hE 67 e rfl (by omega)).trans s2) ((hE 68 e rfl (by omega)).trans z2) g5 (fun q hq => (hE 69 _ rfl (by omega)).trans (gm q hq)) g0 hVB (fun k h1 h2 => hE.row (fun j => by
            unfold scr
            have q1 : Nat.ble k 12 = false := ble_no (by omega)
            have q2 : Nat.ble k 23 = false := ble_no (by omega)
            have q3 : (k == 43) = false := by simp; omega
            have q4 : Nat.ble 62 k = false := ble_no (by omega)
            have q5 : (k == 70) = false := by simp; omega
            rw [q1, q2, q3, q4, q5]
            simp) (by omega))
          rw [e1] at hR5
          have hE5 : eqN (Y.2.2.2.1 + 75) J J5 := mR_eqN (m := 0) hR5 (fun k h1 h2 => hE.row (fun j => by
            unfold scr
            have q1 : Nat.ble k 12 = false := ble_no (by omega)
            have q2 : Nat.ble k 23 = false := ble_no (by omega)
            have q3 : (k == 43) = false := by simp; omega
            have q4 : Nat.ble 62 k = false := ble_no (by omega)
            have q5 : (k == 70) = false := by simp; omega
            rw [q1, q2, q3, q4, q5]
            simp) (by omega))
          exact ⟨_, J, Y, hev, J5, Y, hev2, hRJ.eq hE5 xle.rf, hgw⟩
        · have bc : ∀ k, (k < 1 ∨ 6 < k) → bcI1_7 J k = J k := fun k hk => by
            unfold bcI1_7
            rw [mjU_r (by omega), mjU_r (by omega), mjU_r (by omega), mjU_r (by omega), mjR_ne (by omega), mjR_ne (by omega), mjR_ne (by omega), mjR_ne (by omega)]
          have hfr := hD.2.2.2.2.2.2.1
          have bI : ∀ k j, 22 < k → k < 75 → bcI1_7 J k j = I k j := fun k j h1 h2 => by rw [bc k (by omega)]; exact hfr k j (by omega) (by omega) (by omega)
          obtain ⟨o9, h9, hev2, J5, rfl, rfl, hR5⟩ := c_mTown (d + 8) (I := bcI1_7 J) (X := cpP Y 5 11 6) (s := (I, n9, nl, np)) he ((bI 66 e (by omega) (by omega)).trans g4) ((bI 67 e (by omega) (by omega)).trans s2) ((bI 68 e (by omega) (by omega)).trans z2) g5 (fun q hq => (bI 69 _ (by omega) (by omega)).trans (gm q hq)) g0 hVB (fun k h1 h2 => funext fun j => bI k j (by omega) (by omega))
          exact ⟨_, _, _, hev, J5, _, hev2, town_RI hR hVB2 hD hR5, (hD.eqN hVB2).2.2⟩
      · have w1 : ¬ I (27 + 2 * e) 1 = 0 := by rw [s1, show (0 : Int32) = nI 0 from rfl, nI_eq (by omega) (by omega)]; exact hso
        have w2 : ¬ I 67 e = 0 := by rw [s2, show (0 : Int32) = nI 0 from rfl, nI_eq (by omega) (by omega)]; exact hso
        exact ⟨_, _, X, c_xTnD (d + 8) he g3 w1, _, X, c_mTnD (d + 8) he g4 w2, hR, grw.rf⟩
  · exact ⟨_, _, X, c_xTnA (d + 8) w1, _, X, c_mTnA (d + 8) w2, hR, grw.rf⟩
