/-! bestKind -/
def bkA (c : Nat → Int32) : Nat → Int32 × Int32
  | 0 => (0, 0)
  | k + 1 => bstS c k
theorem bkA_0 {c : Nat → Int32} : bkA c 1 = (nI 0, c 0) := rfl
theorem bkA_lt {c : Nat → Int32} {j : Nat} (h0 : ¬ nI j = 0) (h : ¬ (bkA c j).2 ≤ c j) : bkA c (j + 1) = (nI j, c j) := by
  cases j with
  | zero => exact absurd rfl h0
  | succ j =>
    show bstS c (j + 1) = _
    rw [bstS, if_pos (show c (j + 1) < (bstS c j).2 from Int32.not_le.mp h)]
theorem bkA_ge {c : Nat → Int32} {j : Nat} (h0 : ¬ nI j = 0) (h : (bkA c j).2 ≤ c j) : bkA c (j + 1) = bkA c j := by
  cases j with
  | zero => exact absurd rfl h0
  | succ j =>
    show bstS c (j + 1) = bstS c j
    rw [bstS, if_neg (show ¬ c (j + 1) < (bstS c j).2 from Int32.not_lt.mpr h)]
theorem x_bk_loop {d a kd np n9 wn lw i : Nat} {I0 : Nat → Nat → Int32} {X0 : MX} {fg dr : Int32} (ho0 : xOk I0 np n9) (hKa : lkK X0 a kd) (a0 : I0 a 0 = nI i) (a1 : I0 a 1 = fg) (a2 : I0 a 2 = dr) (a3 : I0 a 3 = nI wn) (h18 : I0 1 8 = nI lw) (hwn : wn ≤ 719) (hd : -20 ≤ dr.toInt ∧ dr.toInt ≤ 20) (hlw : lw < 3) (hN : X0.2.2.2.1 ≤ 800000) : ∀ (k j : Nat) (I : Nat → Nat → Int32) (X : MX), j + k = 8 → eqN (X0.2.2.2.1 + 75) I0 I → xle X0 X → (X.2.2.2.1 = X0.2.2.2.1 + j ∧ X.2.2.2.2.1 = X0.2.2.2.2.1 + j ∧ X.2.2.2.2.2 = X0.2.2.2.2.2 + 4 * j) →
    mjGo (d + 7) nyX11_bestKind 20 ([some (.ref 0), some (.int (nI i)), some (.ref a), some (.int (bkA (fun j => dyCost (mD I0 np n9 (nI j) fg dr wn (nI lw))) j).1), some (.int (bkA (fun j => dyCost (mD I0 np n9 (nI j) fg dr wn (nI lw))) j).2), some (.int (nI j))], [], mjH I X) (fun x => ∃ J Y, x = (.inl (some (.int (bkA (fun j => dyCost (mD I0 np n9 (nI j) fg dr wn (nI lw))) 8).1)), mjH J Y) ∧ eqN (X0.2.2.2.1 + 75) I0 J ∧ xle X0 Y ∧ grw X0 Y) := by
  intro k
  induction k with
  | zero =>
    intro j I X hj he hx hc
    have e : j = 8 := by omega
    subst e
    exact mjGo.ret 5 (fun _ => rfl) ⟨I, X, rfl, he, hx, ⟨by omega, by omega, by omega, by omega⟩⟩
  | succ k ih =>
    intro j I X hj he hx hc
    have hA : ∀ q, I a q = I0 a q := fun q => he a q (scr_hi hKa.1) hKa.2.1
    refine mjGo.run 2 (pc' := 24) (F' := ([some (.ref 0), some (.int (nI i)), some (.ref a), some (.int (bkA (fun j => dyCost (mD I0 np n9 (nI j) fg dr wn (nI lw))) j).1), some (.int (bkA (fun j => dyCost (mD I0 np n9 (nI j) fg dr wn (nI lw))) j).2), some (.int (nI j))], [.int 8, .int (nI j)], mjH I X)) (fun _ => rfl) ?_
    refine mjGo.run 1 (pc' := (bif decide (8 ≤ (nI j)) then 105 else 27)) (F' := ([some (.ref 0), some (.int (nI i)), some (.ref a), some (.int (bkA (fun j => dyCost (mD I0 np n9 (nI j) fg dr wn (nI lw))) j).1), some (.int (bkA (fun j => dyCost (mD I0 np n9 (nI j) fg dr wn (nI lw))) j).2), some (.int (nI j))], [], mjH I X)) (fun _ => rfl) ?_
    refine mjGo.brF (show ¬ 8 ≤ (nI j) by rw [show (8 : Int32) = nI 8 from rfl, nI_leI (by omega) (by omega)]; omega) ?_
    show mjGo _ _ 27 _ _
    refine mjGo.run 6 (pc' := 38) (F' := ([some (.ref 0), some (.int (nI i)), some (.ref a), some (.int (bkA (fun j => dyCost (mD I0 np n9 (nI j) fg dr wn (nI lw))) j).1), some (.int (bkA (fun j => dyCost (mD I0 np n9 (nI j) fg dr wn (nI lw))) j).2), some (.int (nI j))], [.ref a, .int (nI j), .ref 1, .ref 19], mjH I X)) (fun _ => rfl) ?_
    refine mjGo.op (pc' := 41) (F' := ([some (.ref 0), some (.int (nI i)), some (.ref a), some (.int (bkA (fun j => dyCost (mD I0 np n9 (nI j) fg dr wn (nI lw))) j).1), some (.int (bkA (fun j => dyCost (mD I0 np n9 (nI j) fg dr wn (nI lw))) j).2), some (.int (nI j))], [.int (nI i), .int (nI j), .ref 1, .ref 19], mjH I X)) (o := mjgetI [0, 1, 2, 4, 5, 7, 8, 9] 0 41) rfl (fun _ => lkK_get (hKa.le hx) ((hA 0).trans a0)) ?_
    refine mjGo.run 1 (pc' := 42) (F' := ([some (.ref 0), some (.int (nI i)), some (.ref a), some (.int (bkA (fun j => dyCost (mD I0 np n9 (nI j) fg dr wn (nI lw))) j).1), some (.int (bkA (fun j => dyCost (mD I0 np n9 (nI j) fg dr wn (nI lw))) j).2), some (.int (nI j))], [.ref a, .int (nI i), .int (nI j), .ref 1, .ref 19], mjH I X)) (fun _ => rfl) ?_
    refine mjGo.op (pc' := 45) (F' := ([some (.ref 0), some (.int (nI i)), some (.ref a), some (.int (bkA (fun j => dyCost (mD I0 np n9 (nI j) fg dr wn (nI lw))) j).1), some (.int (bkA (fun j => dyCost (mD I0 np n9 (nI j) fg dr wn (nI lw))) j).2), some (.int (nI j))], [.int fg, .int (nI i), .int (nI j), .ref 1, .ref 19], mjH I X)) (o := mjgetI [0, 1, 2, 4, 5, 7, 8, 9] 1 45) rfl (fun _ => lkK_get (hKa.le hx) ((hA 1).trans a1)) ?_
    refine mjGo.run 1 (pc' := 46) (F' := ([some (.ref 0), some (.int (nI i)), some (.ref a), some (.int (bkA (fun j => dyCost (mD I0 np n9 (nI j) fg dr wn (nI lw))) j).1), some (.int (bkA (fun j => dyCost (mD I0 np n9 (nI j) fg dr wn (nI lw))) j).2), some (.int (nI j))], [.ref a, .int fg, .int (nI i), .int (nI j), .ref 1, .ref 19], mjH I X)) (fun _ => rfl) ?_
    refine mjGo.op (pc' := 49) (F' := ([some (.ref 0), some (.int (nI i)), some (.ref a), some (.int (bkA (fun j => dyCost (mD I0 np n9 (nI j) fg dr wn (nI lw))) j).1), some (.int (bkA (fun j => dyCost (mD I0 np n9 (nI j) fg dr wn (nI lw))) j).2), some (.int (nI j))], [.int dr, .int fg, .int (nI i), .int (nI j), .ref 1, .ref 19], mjH I X)) (o := mjgetI [0, 1, 2, 4, 5, 7, 8, 9] 2 49) rfl (fun _ => lkK_get (hKa.le hx) ((hA 2).trans a2)) ?_
    refine mjGo.run 1 (pc' := 50) (F' := ([some (.ref 0), some (.int (nI i)), some (.ref a), some (.int (bkA (fun j => dyCost (mD I0 np n9 (nI j) fg dr wn (nI lw))) j).1), some (.int (bkA (fun j => dyCost (mD I0 np n9 (nI j) fg dr wn (nI lw))) j).2), some (.int (nI j))], [.ref a, .int dr, .int fg, .int (nI i), .int (nI j), .ref 1, .ref 19], mjH I X)) (fun _ => rfl) ?_
    refine mjGo.op (pc' := 53) (F' := ([some (.ref 0), some (.int (nI i)), some (.ref a), some (.int (bkA (fun j => dyCost (mD I0 np n9 (nI j) fg dr wn (nI lw))) j).1), some (.int (bkA (fun j => dyCost (mD I0 np n9 (nI j) fg dr wn (nI lw))) j).2), some (.int (nI j))], [.int (nI wn), .int dr, .int fg, .int (nI i), .int (nI j), .ref 1, .ref 19], mjH I X)) (o := mjgetI [0, 1, 2, 4, 5, 7, 8, 9] 3 53) rfl (fun _ => lkK_get (hKa.le hx) ((hA 3).trans a3)) ?_
    obtain ⟨I1, hI1⟩ : ∃ I1, I1 = lkI (nwI I X) (X.2.2.2.1 + 75) (nI i) fg dr (nI wn) := ⟨_, rfl⟩
    have e1 : eqN (X0.2.2.2.1 + 75) I0 I1 := by rw [hI1]; exact he.trans nwI_eq (by omega)
    have hx1 : xle X0 (nwX X (lkc j)) := hx.trans nwX_le
    have hA1 : ∀ q, I1 a q = I0 a q := fun q => e1 a q (scr_hi hKa.1) hKa.2.1
    have b1 : I1 (X.2.2.2.1 + 75) 1 = fg := by rw [hI1]; exact lkI_1
    have b3 : I1 (X.2.2.2.1 + 75) 3 = nI wn := by rw [hI1]; exact lkI_3
    refine mjGo.call (n := 5) (j := 71) (nx := 56) (o := some (.ref (X.2.2.2.1 + 75))) (h' := mjH I1 (nwX X (lkc j))) (fun _ => rfl) ((by rw [hI1]; exact c_nwL (d + 2) (by omega) (by omega))) ?_
    show mjGo _ _ 56 ([some (.ref 0), some (.int (nI i)), some (.ref a), some (.int (bkA (fun j => dyCost (mD I0 np n9 (nI j) fg dr wn (nI lw))) j).1), some (.int (bkA (fun j => dyCost (mD I0 np n9 (nI j) fg dr wn (nI lw))) j).2), some (.int (nI j))], [.ref (X.2.2.2.1 + 75), .ref 1, .ref 19], mjH I1 (nwX X (lkc j))) _
    refine mjGo.run 1 (pc' := 57) (F' := ([some (.ref 0), some (.int (nI i)), some (.ref a), some (.int (bkA (fun j => dyCost (mD I0 np n9 (nI j) fg dr wn (nI lw))) j).1), some (.int (bkA (fun j => dyCost (mD I0 np n9 (nI j) fg dr wn (nI lw))) j).2), some (.int (nI j))], [.ref a, .ref (X.2.2.2.1 + 75), .ref 1, .ref 19], mjH I1 (nwX X (lkc j)))) (fun _ => rfl) ?_
    refine mjGo.op (pc' := 60) (F' := ([some (.ref 0), some (.int (nI i)), some (.ref a), some (.int (bkA (fun j => dyCost (mD I0 np n9 (nI j) fg dr wn (nI lw))) j).1), some (.int (bkA (fun j => dyCost (mD I0 np n9 (nI j) fg dr wn (nI lw))) j).2), some (.int (nI j))], [.int dr, .ref (X.2.2.2.1 + 75), .ref 1, .ref 19], mjH I1 (nwX X (lkc j)))) (o := mjgetI [0, 1, 2, 4, 5, 7, 8, 9] 2 60) rfl (fun _ => lkK_get (hKa.le hx1) ((hA1 2).trans a2)) ?_
    refine mjGo.run 3 (pc' := 67) (F' := ([some (.ref 0), some (.int (nI i)), some (.ref a), some (.int (bkA (fun j => dyCost (mD I0 np n9 (nI j) fg dr wn (nI lw))) j).1), some (.int (bkA (fun j => dyCost (mD I0 np n9 (nI j) fg dr wn (nI lw))) j).2), some (.int (nI j))], [.int (I1 1 8), .int dr, .ref (X.2.2.2.1 + 75), .ref 1, .ref 19], mjH I1 (nwX X (lkc j)))) (fun _ => rfl) ?_
    obtain ⟨o9, h9, hev, rfl, J, rfl, heJ, hDJ, h3J⟩ := c_xLive _ (X := nwX X (lkc j)) (I0 := I1) (I := I1) (fg := fg) (dr := dr) (lw := lw) (nwX_K (X := X) (kd := j) (by omega)) (ho0.eq e1 (by omega)) eqO.rf b1 b3 hwn hd hlw
    rw [(mD_N e1 (by omega)).1] at hDJ
    have hJ : eqN (X0.2.2.2.1 + 75) I0 J := e1.trans (eqN.of heJ scz_scr) (Nat.le_refl _)
    refine mjGo.call (n := 5) (j := 44) (nx := 70) (o := none) (h' := mjH J (mkX (nwX X (lkc j)))) (fun _ => rfl) ((by rw [show (I1 1 8) = nI lw from (e1 1 8 rfl (by omega)).trans h18]; exact hev)) ?_
    show mjGo _ _ 70 ([some (.ref 0), some (.int (nI i)), some (.ref a), some (.int (bkA (fun j => dyCost (mD I0 np n9 (nI j) fg dr wn (nI lw))) j).1), some (.int (bkA (fun j => dyCost (mD I0 np n9 (nI j) fg dr wn (nI lw))) j).2), some (.int (nI j))], [], mjH J (mkX (nwX X (lkc j)))) _
    refine mjGo.run 2 (pc' := (bif decide ((nI j) = 0) then 87 else 75)) (F' := ([some (.ref 0), some (.int (nI i)), some (.ref a), some (.int (bkA (fun j => dyCost (mD I0 np n9 (nI j) fg dr wn (nI lw))) j).1), some (.int (bkA (fun j => dyCost (mD I0 np n9 (nI j) fg dr wn (nI lw))) j).2), some (.int (nI j))], [], mjH J (mkX (nwX X (lkc j))))) (fun _ => rfl) ?_
    refine mjGo.br (fun q1 => ?_) (fun q1 => ?_)
    · show mjGo _ _ 87 _ _
      refine mjGo.run 8 (pc' := 20) (F' := ([some (.ref 0), some (.int (nI i)), some (.ref a), some (.int (nI j)), some (.int (J 19 9)), some (.int ((nI j) + 1))], [], mjH J (mkX (nwX X (lkc j))))) (fun _ => rfl) ?_
      rw [xDS_cost hDJ]
      have ej : j = 0 := by
        have q := q1
        rw [show (0 : Int32) = nI 0 from rfl, nI_eq (by omega) (by omega)] at q
        exact q
      have k9 := ih (j + 1) J (mkX (nwX X (lkc j))) (by omega) hJ (hx1.trans mkX_le) ⟨by show X.2.2.2.1 + 1 = _; omega, by show X.2.2.2.2.1 + 1 = _; omega, by show X.2.2.2.2.2 + 4 = _; omega⟩
      subst ej
      rw [← nI_1] at k9
      exact k9
    · show mjGo _ _ 75 _ _
      refine mjGo.run 5 (pc' := (bif decide ((bkA (fun j => dyCost (mD I0 np n9 (nI j) fg dr wn (nI lw))) j).2 ≤ (J 19 9)) then 99 else 87)) (F' := ([some (.ref 0), some (.int (nI i)), some (.ref a), some (.int (bkA (fun j => dyCost (mD I0 np n9 (nI j) fg dr wn (nI lw))) j).1), some (.int (bkA (fun j => dyCost (mD I0 np n9 (nI j) fg dr wn (nI lw))) j).2), some (.int (nI j))], [], mjH J (mkX (nwX X (lkc j))))) (fun _ => rfl) ?_
      refine mjGo.br (fun q2 => ?_) (fun q2 => ?_)
      · show mjGo _ _ 99 _ _
        refine mjGo.run 2 (pc' := 20) (F' := ([some (.ref 0), some (.int (nI i)), some (.ref a), some (.int (bkA (fun j => dyCost (mD I0 np n9 (nI j) fg dr wn (nI lw))) j).1), some (.int (bkA (fun j => dyCost (mD I0 np n9 (nI j) fg dr wn (nI lw))) j).2), some (.int ((nI j) + 1))], [], mjH J (mkX (nwX X (lkc j))))) (fun _ => rfl) ?_
        rw [xDS_cost hDJ] at q2
        have k9 := ih (j + 1) J (mkX (nwX X (lkc j))) (by omega) hJ (hx1.trans mkX_le) ⟨by show X.2.2.2.1 + 1 = _; omega, by show X.2.2.2.2.1 + 1 = _; omega, by show X.2.2.2.2.2 + 4 = _; omega⟩
        rw [bkA_ge (c := (fun j => dyCost (mD I0 np n9 (nI j) fg dr wn (nI lw)))) q1 q2, ← nI_1] at k9
        exact k9
      · show mjGo _ _ 87 _ _
        refine mjGo.run 8 (pc' := 20) (F' := ([some (.ref 0), some (.int (nI i)), some (.ref a), some (.int (nI j)), some (.int (J 19 9)), some (.int ((nI j) + 1))], [], mjH J (mkX (nwX X (lkc j))))) (fun _ => rfl) ?_
        rw [xDS_cost hDJ] at q2
        rw [xDS_cost hDJ]
        have k9 := ih (j + 1) J (mkX (nwX X (lkc j))) (by omega) hJ (hx1.trans mkX_le) ⟨by show X.2.2.2.1 + 1 = _; omega, by show X.2.2.2.2.1 + 1 = _; omega, by show X.2.2.2.2.2 + 4 = _; omega⟩
        rw [bkA_lt (c := (fun j => dyCost (mD I0 np n9 (nI j) fg dr wn (nI lw)))) q1 q2, ← nI_1] at k9
        exact k9
theorem x_bestKind (d : Nat) {np n9 nl lw i a kd wn : Nat} {I : Nat → Nat → Int32} {X : MX} (ho : xOk I np n9) (hn : nl ≤ 6) (h16 : I 1 6 = nI nl) (hi : i < nl) (hl : lkR I X 1 44 i a kd wn) (hlw : lw < 3) (h18 : I 1 8 = nI lw) (hN : X.2.2.2.1 ≤ 800000) : mjEvP (d + 8) nyX11_bestKind [.ref 0, .int (nI i)] (mjH I X) (fun o h2 => ∃ J Y, h2 = mjH J Y ∧ eqN (X.2.2.2.1 + 75) I J ∧ xle X Y ∧ grw X Y ∧ o = some (.int (bkA (fun j => dyCost (mD I np n9 (nI j) (I 49 i) (I 50 i) wn (nI lw))) 8).1)) := by
  obtain ⟨hP, hlk, l0, l1, l2, l3, l4, hwn, l5, hdr⟩ := hl
  refine mjEvP.of ?_
  show mjGo (d + 8) nyX11_bestKind 0 ([some (.ref 0), some (.int (nI i)), none, none, none, none], [], mjH I X) _
  refine mjGo.run 2 (pc' := 2) (F' := ([some (.ref 0), some (.int (nI i)), none, none, none, none], [.int (nI i), .ref 0], mjH I X)) (fun _ => rfl) ?_
  refine mjGo.call (n := 2) (j := 91) (nx := 5) (o := some (.ref a)) (h' := mjH I X) (fun _ => rfl) (c_lkYes _ hn h16 hi hP) ?_
  show mjGo _ _ 5 ([some (.ref 0), some (.int (nI i)), none, none, none, none], [.ref a], mjH I X) _
  refine mjGo.run 9 (pc' := 20) (F' := ([some (.ref 0), some (.int (nI i)), some (.ref a), some (.int 0), some (.int 0), some (.int 0)], [], mjH I X)) (fun _ => rfl) ?_
  obtain ⟨n, x, hx, J, Y, rfl, hJ, hY, hg⟩ := x_bk_loop (d := d + 1) ho hlk l0 l1 l2 l3 h18 hwn hdr hlw hN 8 0 I X (by omega) eqN.rf xle.rf ⟨by omega, by omega, by omega⟩
  exact ⟨n, _, hx, _, rfl, J, Y, rfl, hJ, hY, hg, rfl⟩
theorem m_bk_loop {d i kd wn np n9 nl lw : Nat} {I0 : Nat → Nat → Int32} {X : MX} (hb0 : MB I0 i kd wn np n9 nl lw) : ∀ (k j : Nat) (I : Nat → Nat → Int32) (o5 : Option Value), j + k = 8 → eqO scd I0 I →
    mjGo (d + 4) nyX12_bestKind 17 ([some (.ref 43), some (.int (nI i)), some (.int (bkA (fun j => dyCost (mD I0 np n9 (nI j) (I0 49 i) (I0 50 i) wn (nI lw))) j).1), some (.int (bkA (fun j => dyCost (mD I0 np n9 (nI j) (I0 49 i) (I0 50 i) wn (nI lw))) j).2), some (.int (nI j)), o5], [], mjH I X) (fun x => ∃ J, x = (.inl (some (.int (bkA (fun j => dyCost (mD I0 np n9 (nI j) (I0 49 i) (I0 50 i) wn (nI lw))) 8).1)), mjH J X) ∧ eqO scd I0 J) := by
  intro k
  induction k with
  | zero =>
    intro j I o5 hj heq
    have e : j = 8 := by omega
    subst e
    exact mjGo.ret 5 (fun _ => rfl) ⟨I, rfl, heq⟩
  | succ k ih =>
    intro j I o5 hj heq
    obtain ⟨hb, e49, e50, eD⟩ := hb0.eq (n := 75) (eqN.of heq scd_scr) (by omega)
    have ⟨_, hn, h44, hi, m48, m51, hwn, m443⟩ := hb
    have ho := hb0.1
    refine mjGo.run 2 (pc' := 21) (F' := ([some (.ref 43), some (.int (nI i)), some (.int (bkA (fun j => dyCost (mD I0 np n9 (nI j) (I0 49 i) (I0 50 i) wn (nI lw))) j).1), some (.int (bkA (fun j => dyCost (mD I0 np n9 (nI j) (I0 49 i) (I0 50 i) wn (nI lw))) j).2), some (.int (nI j)), o5], [.int 8, .int (nI j)], mjH I X)) (fun _ => rfl) ?_
    refine mjGo.run 1 (pc' := (bif decide (8 ≤ (nI j)) then 79 else 24)) (F' := ([some (.ref 43), some (.int (nI i)), some (.int (bkA (fun j => dyCost (mD I0 np n9 (nI j) (I0 49 i) (I0 50 i) wn (nI lw))) j).1), some (.int (bkA (fun j => dyCost (mD I0 np n9 (nI j) (I0 49 i) (I0 50 i) wn (nI lw))) j).2), some (.int (nI j)), o5], [], mjH I X)) (fun _ => rfl) ?_
    refine mjGo.brF (show ¬ 8 ≤ (nI j) by rw [show (8 : Int32) = nI 8 from rfl, nI_leI (by omega) (by omega)]; omega) ?_
    show mjGo _ _ 24 _ _
    refine mjGo.run 5 (pc' := 32) (F' := ([some (.ref 43), some (.int (nI i)), some (.int (bkA (fun j => dyCost (mD I0 np n9 (nI j) (I0 49 i) (I0 50 i) wn (nI lw))) j).1), some (.int (bkA (fun j => dyCost (mD I0 np n9 (nI j) (I0 49 i) (I0 50 i) wn (nI lw))) j).2), some (.int (nI j)), o5], [.int (nI i), .ref 49, .int (nI j), .ref 43], mjH I X)) (fun _ => rfl) ?_
    refine mjGo.op (pc' := 33) (F' := ([some (.ref 43), some (.int (nI i)), some (.int (bkA (fun j => dyCost (mD I0 np n9 (nI j) (I0 49 i) (I0 50 i) wn (nI lw))) j).1), some (.int (bkA (fun j => dyCost (mD I0 np n9 (nI j) (I0 49 i) (I0 50 i) wn (nI lw))) j).2), some (.int (nI j)), o5], [.int (I 49 i), .int (nI j), .ref 43], mjH I X)) (o := mjiald 33) rfl (fun _ => mjald_n (n := 6) (by omega) (by decide) (rfl) (rfl)) ?_
    refine mjGo.run 3 (pc' := 38) (F' := ([some (.ref 43), some (.int (nI i)), some (.int (bkA (fun j => dyCost (mD I0 np n9 (nI j) (I0 49 i) (I0 50 i) wn (nI lw))) j).1), some (.int (bkA (fun j => dyCost (mD I0 np n9 (nI j) (I0 49 i) (I0 50 i) wn (nI lw))) j).2), some (.int (nI j)), o5], [.int (nI i), .ref 50, .int (I 49 i), .int (nI j), .ref 43], mjH I X)) (fun _ => rfl) ?_
    refine mjGo.op (pc' := 39) (F' := ([some (.ref 43), some (.int (nI i)), some (.int (bkA (fun j => dyCost (mD I0 np n9 (nI j) (I0 49 i) (I0 50 i) wn (nI lw))) j).1), some (.int (bkA (fun j => dyCost (mD I0 np n9 (nI j) (I0 49 i) (I0 50 i) wn (nI lw))) j).2), some (.int (nI j)), o5], [.int (I 50 i), .int (I 49 i), .int (nI j), .ref 43], mjH I X)) (o := mjiald 39) rfl (fun _ => mjald_n (n := 6) (by omega) (by decide) (rfl) (rfl)) ?_
    refine mjGo.run 3 (pc' := 44) (F' := ([some (.ref 43), some (.int (nI i)), some (.int (bkA (fun j => dyCost (mD I0 np n9 (nI j) (I0 49 i) (I0 50 i) wn (nI lw))) j).1), some (.int (bkA (fun j => dyCost (mD I0 np n9 (nI j) (I0 49 i) (I0 50 i) wn (nI lw))) j).2), some (.int (nI j)), o5], [.int (nI i), .ref 51, .int (I 50 i), .int (I 49 i), .int (nI j), .ref 43], mjH I X)) (fun _ => rfl) ?_
    refine mjGo.op (pc' := 45) (F' := ([some (.ref 43), some (.int (nI i)), some (.int (bkA (fun j => dyCost (mD I0 np n9 (nI j) (I0 49 i) (I0 50 i) wn (nI lw))) j).1), some (.int (bkA (fun j => dyCost (mD I0 np n9 (nI j) (I0 49 i) (I0 50 i) wn (nI lw))) j).2), some (.int (nI j)), o5], [.int (I 51 i), .int (I 50 i), .int (I 49 i), .int (nI j), .ref 43], mjH I X)) (o := mjiald 45) rfl (fun _ => mjald_n (n := 6) (by omega) (by decide) (rfl) (rfl)) ?_
    refine mjGo.run 4 (pc' := 51) (F' := ([some (.ref 43), some (.int (nI i)), some (.int (bkA (fun j => dyCost (mD I0 np n9 (nI j) (I0 49 i) (I0 50 i) wn (nI lw))) j).1), some (.int (bkA (fun j => dyCost (mD I0 np n9 (nI j) (I0 49 i) (I0 50 i) wn (nI lw))) j).2), some (.int (nI j)), o5], [.int (I 44 3), .int (I 51 i), .int (I 50 i), .int (I 49 i), .int (nI j), .ref 43], mjH I X)) (fun _ => rfl) ?_
    obtain ⟨o9, h9, hev, J9, rfl, heJ, hdJ, rfl⟩ := c_mDay _ (k := nI j) (f := I0 49 i) (dr := I0 50 i) (wn := wn) (law := nI lw) (X := X) ho heq hwn
    refine mjGo.call (n := 6) (j := 151) (nx := 54) (o := some (.int (dyCost (mD I0 np n9 (nI j) (I0 49 i) (I0 50 i) wn (nI lw))))) (h' := mjH J9 X) (fun _ => rfl) ((by rw [m51, m443, e49, e50]; exact hev)) ?_
    show mjGo _ _ 54 ([some (.ref 43), some (.int (nI i)), some (.int (bkA (fun j => dyCost (mD I0 np n9 (nI j) (I0 49 i) (I0 50 i) wn (nI lw))) j).1), some (.int (bkA (fun j => dyCost (mD I0 np n9 (nI j) (I0 49 i) (I0 50 i) wn (nI lw))) j).2), some (.int (nI j)), o5], [.int (dyCost (mD I0 np n9 (nI j) (I0 49 i) (I0 50 i) wn (nI lw)))], mjH J9 X) _
    refine mjGo.run 3 (pc' := (bif decide ((nI j) = 0) then 67 else 61)) (F' := ([some (.ref 43), some (.int (nI i)), some (.int (bkA (fun j => dyCost (mD I0 np n9 (nI j) (I0 49 i) (I0 50 i) wn (nI lw))) j).1), some (.int (bkA (fun j => dyCost (mD I0 np n9 (nI j) (I0 49 i) (I0 50 i) wn (nI lw))) j).2), some (.int (nI j)), some (.int (dyCost (mD I0 np n9 (nI j) (I0 49 i) (I0 50 i) wn (nI lw))))], [], mjH J9 X)) (fun _ => rfl) ?_
    refine mjGo.br (fun q1 => ?_) (fun q1 => ?_)
    · show mjGo _ _ 67 _ _
      refine mjGo.run 6 (pc' := 17) (F' := ([some (.ref 43), some (.int (nI i)), some (.int (nI j)), some (.int (dyCost (mD I0 np n9 (nI j) (I0 49 i) (I0 50 i) wn (nI lw)))), some (.int ((nI j) + 1)), some (.int (dyCost (mD I0 np n9 (nI j) (I0 49 i) (I0 50 i) wn (nI lw))))], [], mjH J9 X)) (fun _ => rfl) ?_
      have ej : j = 0 := by
        have q := q1
        rw [show (0 : Int32) = nI 0 from rfl, nI_eq (by omega) (by omega)] at q
        exact q
      have k9 := ih (j + 1) J9 (some (.int (dyCost (mD I0 np n9 (nI j) (I0 49 i) (I0 50 i) wn (nI lw))))) (by omega) heJ
      subst ej
      rw [← nI_1] at k9
      exact k9
    · show mjGo _ _ 61 _ _
      refine mjGo.run 3 (pc' := (bif decide ((bkA (fun j => dyCost (mD I0 np n9 (nI j) (I0 49 i) (I0 50 i) wn (nI lw))) j).2 ≤ (dyCost (mD I0 np n9 (nI j) (I0 49 i) (I0 50 i) wn (nI lw)))) then 73 else 67)) (F' := ([some (.ref 43), some (.int (nI i)), some (.int (bkA (fun j => dyCost (mD I0 np n9 (nI j) (I0 49 i) (I0 50 i) wn (nI lw))) j).1), some (.int (bkA (fun j => dyCost (mD I0 np n9 (nI j) (I0 49 i) (I0 50 i) wn (nI lw))) j).2), some (.int (nI j)), some (.int (dyCost (mD I0 np n9 (nI j) (I0 49 i) (I0 50 i) wn (nI lw))))], [], mjH J9 X)) (fun _ => rfl) ?_
      refine mjGo.br (fun q2 => ?_) (fun q2 => ?_)
      · show mjGo _ _ 73 _ _
        refine mjGo.run 2 (pc' := 17) (F' := ([some (.ref 43), some (.int (nI i)), some (.int (bkA (fun j => dyCost (mD I0 np n9 (nI j) (I0 49 i) (I0 50 i) wn (nI lw))) j).1), some (.int (bkA (fun j => dyCost (mD I0 np n9 (nI j) (I0 49 i) (I0 50 i) wn (nI lw))) j).2), some (.int ((nI j) + 1)), some (.int (dyCost (mD I0 np n9 (nI j) (I0 49 i) (I0 50 i) wn (nI lw))))], [], mjH J9 X)) (fun _ => rfl) ?_
        have k9 := ih (j + 1) J9 (some (.int (dyCost (mD I0 np n9 (nI j) (I0 49 i) (I0 50 i) wn (nI lw))))) (by omega) heJ
        rw [bkA_ge (c := (fun j => dyCost (mD I0 np n9 (nI j) (I0 49 i) (I0 50 i) wn (nI lw)))) q1 q2, ← nI_1] at k9
        exact k9
      · show mjGo _ _ 67 _ _
        refine mjGo.run 6 (pc' := 17) (F' := ([some (.ref 43), some (.int (nI i)), some (.int (nI j)), some (.int (dyCost (mD I0 np n9 (nI j) (I0 49 i) (I0 50 i) wn (nI lw)))), some (.int ((nI j) + 1)), some (.int (dyCost (mD I0 np n9 (nI j) (I0 49 i) (I0 50 i) wn (nI lw))))], [], mjH J9 X)) (fun _ => rfl) ?_
        have k9 := ih (j + 1) J9 (some (.int (dyCost (mD I0 np n9 (nI j) (I0 49 i) (I0 50 i) wn (nI lw))))) (by omega) heJ
        rw [bkA_lt (c := (fun j => dyCost (mD I0 np n9 (nI j) (I0 49 i) (I0 50 i) wn (nI lw)))) q1 q2, ← nI_1] at k9
        exact k9
theorem m_bestKind (d : Nat) {i kd wn np n9 nl lw : Nat} {I : Nat → Nat → Int32} {X : MX} (hb : MB I i kd wn np n9 nl lw) : mjEvP (d + 8) nyX12_bestKind [.ref 43, .int (nI i)] (mjH I X) (fun o h2 => ∃ J, h2 = mjH J X ∧ eqO scd I J ∧ o = some (.int (bkA (fun j => dyCost (mD I np n9 (nI j) (I 49 i) (I 50 i) wn (nI lw))) 8).1)) := by
  have ⟨ho, hn, h44, hi, m48, m51, hwn, m443⟩ := hb
  refine mjEvP.of ?_
  show mjGo (d + 8) nyX12_bestKind 0 ([some (.ref 43), some (.int (nI i)), none, none, none, none], [], mjH I X) _
  refine mjGo.run 2 (pc' := 2) (F' := ([some (.ref 43), some (.int (nI i)), none, none, none, none], [.int (nI i), .ref 43], mjH I X)) (fun _ => rfl) ?_
  refine mjGo.call (n := 2) (j := 138) (nx := 5) (o := some (.int 1)) (h' := mjH I X) (fun _ => rfl) ((by have q := c_mIsL (d + 6) (nI i) (I := I) (X := X); rw [mIsL, h44, mIn_yes hi (by omega)] at q; exact q)) ?_
  show mjGo _ _ 5 ([some (.ref 43), some (.int (nI i)), none, none, none, none], [.int 1], mjH I X) _
  refine mjGo.run 7 (pc' := 17) (F' := ([some (.ref 43), some (.int (nI i)), some (.int 0), some (.int 0), some (.int 0), none], [], mjH I X)) (fun _ => rfl) ?_
  obtain ⟨n, x, hx, J, rfl, hJ⟩ := m_bk_loop (d := d + 4) (X := X) hb 8 0 I none (by omega) eqO.rf
  exact ⟨n, _, hx, _, rfl, J, rfl, hJ, rfl⟩
def xp_bestKindN (I : Nat → Nat → Int32) (k : Int32) : Int32 := (-1)
theorem c_xp_bestKindN (d : Nat) {I : Nat → Nat → Int32} {X : MX} (k : Int32) {nl : Nat} (hn : nl ≤ 6) (h16 : I 1 6 = nI nl) (hno : mIn k 0 (nI nl - 1) = 0) : mjEv (d + 8) nyX11_bestKind [.ref 0, .int k] (mjH I X) (.inl (some (.int (xp_bestKindN I k)))) (mjH I X) := by
  refine mjEv.of ?_
  show mjGo (d + 8) nyX11_bestKind 0 ([some (.ref 0), some (.int k), none, none, none, none], [], mjH I X) _
  refine mjGo.run 2 (pc' := 2) (F' := ([some (.ref 0), some (.int k), none, none, none, none], [.int k, .ref 0], mjH I X)) (fun _ => rfl) ?_
  refine mjGo.call (n := 2) (j := 91) (nx := 5) (o := some (.null)) (h' := mjH I X) (fun _ => rfl) (c_lkNo _ hn h16 hno) ?_
  show mjGo _ _ 5 ([some (.ref 0), some (.int k), none, none, none, none], [.null], mjH I X) _
  have e9 : xp_bestKindN I k = (-1) := by unfold xp_bestKindN; rfl
  rw [e9]
  exact mjGo.ret 5 (fun _ => rfl) rfl
def mp_bestKindN (I : Nat → Nat → Int32) (k : Int32) : Int32 := (-1)
theorem c_mp_bestKindN (d : Nat) {I : Nat → Nat → Int32} {X : MX} (k : Int32) {nl : Nat} (h44 : I 44 1 = nI nl) (hno : mIn k 0 (nI nl - 1) = 0) : mjEv (d + 8) nyX12_bestKind [.ref 43, .int k] (mjH I X) (.inl (some (.int (mp_bestKindN I k)))) (mjH I X) := by
  refine mjEv.of ?_
  show mjGo (d + 8) nyX12_bestKind 0 ([some (.ref 43), some (.int k), none, none, none, none], [], mjH I X) _
  refine mjGo.run 2 (pc' := 2) (F' := ([some (.ref 43), some (.int k), none, none, none, none], [.int k, .ref 43], mjH I X)) (fun _ => rfl) ?_
  refine mjGo.call (n := 2) (j := 138) (nx := 5) (o := some (.int 0)) (h' := mjH I X) (fun _ => rfl) ((by have q := c_mIsL (d + 6) k (I := I) (X := X); rw [mIsL, h44, hno] at q; exact q)) ?_
  show mjGo _ _ 5 ([some (.ref 43), some (.int k), none, none, none, none], [.int 0], mjH I X) _
  have e9 : mp_bestKindN I k = (-1) := by unfold mp_bestKindN; rfl
  rw [e9]
  exact mjGo.ret 3 (fun _ => rfl) rfl
theorem k_bestKind (d : Nat) (k : Int32) : CALL (d + 12) nyX11_bestKind nyX12_bestKind [.ref 0, .int k] [.ref 43, .int k] := CALL.scrN fun I X hR hN => by
  obtain ⟨np, n9, nl, lw, ho, ⟨hn, h16, h44⟩, ⟨hlw, h18, h443⟩, hlk⟩ := hR.lk
  by_cases h : mIn k 0 (nI nl - 1) = 0
  · refine ⟨_, ⟨I, X, c_xp_bestKindN (d + 4) k hn h16 h, eqN.rf, xle.rf, grw.rf⟩, fun J Y hJ e hx => ?_⟩
    have q := c_mp_bestKindN (d + 4) (I := J) (X := Y) k ((e 44 1 rfl (by omega)).trans h44) h
    exact ⟨J, q, eqN.rf⟩
  · obtain ⟨i, hi, rfl⟩ := mIn_no h (by omega)
    obtain ⟨a, kd, wn, hl⟩ := hlk i hi
    have hb : MB I i kd wn np n9 nl lw := ⟨ho.2.2.2.2.2.2, hn, h44, hi, hl.2.2.2.2.2.2.2.2.1, hl.2.2.2.2.2.2.1, hl.2.2.2.2.2.2.2.1, h443⟩
    obtain ⟨o, h9, hev, J, Y, rfl, hJ, hx, hg, rfl⟩ := x_bestKind (d + 4) ho hn h16 hi hl hlw h18 hN
    refine ⟨_, ⟨J, Y, hev, hJ, hx, hg⟩, fun J Y hRJ e hx => ?_⟩
    obtain ⟨hb2, e49, e50, eD⟩ := hb.eq e (by omega)
    have eB := (mD_N e (by omega)).2.1
    have eS := (mD_N e (by omega)).2.2
    have e45 : J 45 = I 45 := e.row (fun _ => rfl) (by omega)
    obtain ⟨o, h9, hev, L, rfl, hL, rfl⟩ := m_bestKind (d + 4) (X := Y) hb2
    simp only [e49, e50, eD, eB, eS, e45] at hev
    exact ⟨L, hev, eqN.of hL scd_scr⟩
