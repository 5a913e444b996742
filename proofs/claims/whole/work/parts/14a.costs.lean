/-! sum: the costs of all -/
def cst (I : Nat → Nat → Int32) (np n9 i : Nat) : Int32 := dyCost (mD I np n9 (I 48 i) (I 49 i) (I 50 i) (I 51 i).toNatClampNeg (I 44 3))
theorem mIn_end {n : Nat} (hn : n < 2 ^ 31) : mIn (nI n) 0 (nI n - 1) = 0 := by
  refine Decidable.not_not.mp fun q => ?_
  obtain ⟨j, hj, e⟩ := mIn_no q hn
  rw [nI_eq hn (by omega)] at e
  omega
theorem x_cc_loop {d np n9 nl lw : Nat} {I0 : Nat → Nat → Int32} {X0 : MX} (ho0 : xOk I0 np n9) (hn : nl ≤ 6) (h160 : I0 1 6 = nI nl) (hlw : lw < 3) (h18 : I0 1 8 = nI lw) (h443 : I0 44 3 = nI lw) (hlk0 : ∀ i, i < nl → ∃ a kd wn, lkR I0 X0 1 44 i a kd wn) : ∀ (k j : Nat) (I : Nat → Nat → Int32) (Y : MX) (o2 : Option Value), j + k = nl → eqN (X0.2.2.2.1 + 75) I0 I → (Y = X0 ∨ Y = mkX X0) → (∀ i, i < j → I 23 i = cst I0 np n9 i) →
    mjGo (d + 7) nyX11_countCosts 2 ([some (.ref 0), some (.int (nI j)), o2], [], mjH I Y) (fun x => ∃ J Y2, x = (.inl none, mjH J Y2) ∧ eqN (X0.2.2.2.1 + 75) I0 J ∧ (Y2 = X0 ∨ Y2 = mkX X0) ∧ ∀ i, i < nl → J 23 i = cst I0 np n9 i) := by
  intro k
  induction k with
  | zero =>
    intro j I Y o2 hj he hY hc
    have e : j = nl := by omega
    subst e
    have h16 : I 1 6 = nI j := (he 1 6 rfl (by omega)).trans h160
    refine mjGo.run 3 (pc' := (bif decide (6 ≤ (nI j)) then 61 else 8)) (F' := ([some (.ref 0), some (.int (nI j)), o2], [], mjH I Y)) (fun _ => rfl) ?_
    refine mjGo.br (fun q1 => ?_) (fun q1 => ?_)
    · show mjGo _ _ 61 _ _
      exact mjGo.ret 1 (fun _ => rfl) ⟨I, Y, rfl, he, hY, hc⟩
    · show mjGo _ _ 8 _ _
      refine mjGo.run 2 (pc' := 10) (F' := ([some (.ref 0), some (.int (nI j)), o2], [.int (nI j), .ref 0], mjH I Y)) (fun _ => rfl) ?_
      refine mjGo.call (n := 2) (j := 91) (nx := 13) (o := some (.null)) (h' := mjH I Y) (fun _ => rfl) (c_lkNo _ hn h16 (mIn_end (by omega))) ?_
      show mjGo _ _ 13 ([some (.ref 0), some (.int (nI j)), o2], [.null], mjH I Y) _
      exact mjGo.ret 4 (fun _ => rfl) ⟨I, Y, rfl, he, hY, hc⟩
  | succ k ih =>
    intro j I Y o2 hj he hY hc
    have h16 : I 1 6 = nI nl := (he 1 6 rfl (by omega)).trans h160
    have hi : j < nl := by omega
    have hx : xle X0 Y := xle_of hY
    obtain ⟨a, kd, wn, hl0⟩ := hlk0 j hi
    have h48 : I0 48 j = nI kd := hl0.2.2.2.2.2.2.2.2.1
    have h51 : I0 51 j = nI wn := hl0.2.2.2.2.2.2.1
    have key : ∀ k, k < 75 → (∀ j, scr k j = false) → I k = I0 k := fun k h1 h2 => he.row h2 (by omega)
    have hl := hl0.eq he hx (Or.inl rfl) (key 48 (by omega) (fun _ => rfl)) (key 49 (by omega) (fun _ => rfl)) (key 50 (by omega) (fun _ => rfl)) (key 51 (by omega) (fun _ => rfl))
    obtain ⟨hP, hlk, l0, l1, l2, l3, l4, hwn, l5, hdr⟩ := hl
    refine mjGo.run 2 (pc' := 5) (F' := ([some (.ref 0), some (.int (nI j)), o2], [.int 6, .int (nI j)], mjH I Y)) (fun _ => rfl) ?_
    refine mjGo.run 1 (pc' := (bif decide (6 ≤ (nI j)) then 61 else 8)) (F' := ([some (.ref 0), some (.int (nI j)), o2], [], mjH I Y)) (fun _ => rfl) ?_
    refine mjGo.brF (show ¬ 6 ≤ (nI j) by rw [show (6 : Int32) = nI 6 from rfl, nI_leI (by omega) (by omega)]; omega) ?_
    show mjGo _ _ 8 _ _
    refine mjGo.run 2 (pc' := 10) (F' := ([some (.ref 0), some (.int (nI j)), o2], [.int (nI j), .ref 0], mjH I Y)) (fun _ => rfl) ?_
    refine mjGo.call (n := 2) (j := 91) (nx := 13) (o := some (.ref a)) (h' := mjH I Y) (fun _ => rfl) (c_lkYes _ hn h16 hi hP) ?_
    show mjGo _ _ 13 ([some (.ref 0), some (.int (nI j)), o2], [.ref a], mjH I Y) _
    refine mjGo.run 9 (pc' := 29) (F' := ([some (.ref 0), some (.int (nI j)), some (.ref a)], [.ref a, .ref a, .ref 1, .ref 19], mjH I Y)) (fun _ => rfl) ?_
    refine mjGo.op (pc' := 32) (F' := ([some (.ref 0), some (.int (nI j)), some (.ref a)], [.int (I 50 j), .ref a, .ref 1, .ref 19], mjH I Y)) (o := mjgetI [0, 1, 2, 4, 5, 7, 8, 9] 2 32) rfl (fun _ => lkK_get hlk l2) ?_
    refine mjGo.run 3 (pc' := 39) (F' := ([some (.ref 0), some (.int (nI j)), some (.ref a)], [.int (I 1 8), .int (I 50 j), .ref a, .ref 1, .ref 19], mjH I Y)) (fun _ => rfl) ?_
    obtain ⟨o9, h9, hev, rfl, J, rfl, heJ, hDJ, h3J⟩ := c_xLive _ (X := Y) (I0 := I) (I := I) (fg := I 49 j) (dr := I 50 j) (lw := lw) hlk (ho0.eq he (by omega)) eqO.rf l1 l3 hwn hdr hlw
    have hcost : J 19 9 = cst I0 np n9 j := by
      rw [xDS_cost hDJ, (mD_N he (by omega)).1, key 49 (by omega) (fun _ => rfl), key 50 (by omega) (fun _ => rfl)]
      unfold cst
      rw [h48, h51, h443, nI_clamp (by omega)]
    have hJ : eqN (X0.2.2.2.1 + 75) I0 J := he.trans (eqN.of heJ scz_scr) (Nat.le_refl (X0.2.2.2.1 + 75))
    refine mjGo.call (n := 5) (j := 44) (nx := 42) (o := none) (h' := mjH J (mkX Y)) (fun _ => rfl) ((by rw [show (I 1 8) = nI lw from (he 1 8 rfl (by omega)).trans h18]; exact hev)) ?_
    show mjGo _ _ 42 ([some (.ref 0), some (.int (nI j)), some (.ref a)], [], mjH J (mkX Y)) _
    refine mjGo.run 6 (pc' := 54) (F' := ([some (.ref 0), some (.int (nI j)), some (.ref a)], [.int (J 19 9), .int (nI j), .ref 23], mjH J (mkX Y))) (fun _ => rfl) ?_
    refine mjGo.op (pc' := 55) (F' := ([some (.ref 0), some (.int (nI j)), some (.ref a)], [], mjH (mjU J 23 j (J 19 9)) (mkX Y))) (o := mjiast 55) rfl (fun _ => mjast_n (n := 6) (by omega) (by decide) (rfl) (rfl)) ?_
    refine mjGo.run 2 (pc' := 2) (F' := ([some (.ref 0), some (.int ((nI j) + 1)), some (.ref a)], [], mjH (mjU J 23 j (J 19 9)) (mkX Y))) (fun _ => rfl) ?_
    have k9 := ih (j + 1) (mjU J 23 j (J 19 9)) (mkX Y) (some (.ref a)) (by omega) (fun k q h1 h2 => by
      rw [mjU_ob (by rintro rfl; exact absurd h1 (by simp [scr]))]
      exact hJ k q h1 h2) (Or.inr (mkX_or hY)) (fun i hi2 => by
      rw [mjU_k]
      by_cases w : i = j
      · rw [if_pos w, w, hcost]
      · rw [if_neg w, show J 23 i = I 23 i from heJ 23 i rfl]
        exact hc i (by omega))
    rw [← nI_1] at k9
    exact k9
