/-! calls on days -/
theorem RI.lk {I : Nat → Nat → Int32} {X : MX} (h : RI I X) : ∃ np n9 nl lw, xOk I np n9 ∧ (nl ≤ 6 ∧ I 1 6 = nI nl ∧ I 44 1 = nI nl) ∧ (lw < 3 ∧ I 1 8 = nI lw ∧ I 44 3 = nI lw) ∧ ∀ i, i < nl → ∃ a kd wn, lkR I X 1 44 i a kd wn := by
  obtain ⟨⟨np, n9, nl, lw, h1, h2, h3, h4, h5, h6, h7, h8, h9, h10⟩, _⟩ := h
  exact ⟨np, n9, nl, lw, ⟨h3.1, h1.1, h5.1, h5.2.1, h5.2.2.1, h5.2.2.2, h3.2, h7, h1.2, h6⟩, ⟨h8, h2⟩, ⟨h9, h4⟩, h10⟩
def MB (I : Nat → Nat → Int32) (i kd wn np n9 nl lw : Nat) : Prop := mOk I np n9 ∧ nl ≤ 6 ∧ I 44 1 = nI nl ∧ i < nl ∧ I 48 i = nI kd ∧ I 51 i = nI wn ∧ wn ≤ 719 ∧ I 44 3 = nI lw
theorem mD_eq {I J : Nat → Nat → Int32} (h45 : J 45 = I 45) (h46 : J 46 = I 46) (h47 : J 47 = I 47) (h52 : J 52 = I 52) : mD J = mD I := by
  funext np n9 k f dr wn law
  unfold mD mBf
  have hS : mS J = mS I := by
    funext np n9 k f dr wn law
    unfold mS
    rw [h45, h46, h47, h52]
  have hB : mBc J = mBc I := by
    funext np n9 dr wn law f
    unfold mBc
    rw [hS]
  rw [hS, hB]
theorem mBf_eq {I J : Nat → Nat → Int32} (h45 : J 45 = I 45) (h46 : J 46 = I 46) (h47 : J 47 = I 47) (h52 : J 52 = I 52) : mBf J = mBf I := by
  funext np n9 dr wn law
  have hB : mBc J = mBc I := by
    funext np n9 dr wn law f
    unfold mBc mS
    rw [h45, h46, h47, h52]
  unfold mBf
  rw [hB]
theorem MB.eq {I J : Nat → Nat → Int32} {i kd wn np n9 nl lw n : Nat} (h : MB I i kd wn np n9 nl lw) (e : eqN n I J) (hn : 75 ≤ n) : MB J i kd wn np n9 nl lw ∧ J 49 = I 49 ∧ J 50 = I 50 ∧ mD J = mD I := by
  have key : ∀ k, k < 75 → (∀ j, scr k j = false) → J k = I k := fun k h1 h2 => e.row h2 (by omega)
  have e44 := key 44 (by omega) (fun _ => rfl)
  have e45 := key 45 (by omega) (fun _ => rfl)
  have e46 := key 46 (by omega) (fun _ => rfl)
  have e47 := key 47 (by omega) (fun _ => rfl)
  have e48 := key 48 (by omega) (fun _ => rfl)
  have e51 := key 51 (by omega) (fun _ => rfl)
  have e52 := key 52 (by omega) (fun _ => rfl)
  refine ⟨?_, key 49 (by omega) (fun _ => rfl), key 50 (by omega) (fun _ => rfl), mD_eq e45 e46 e47 e52⟩
  unfold MB mOk at h ⊢
  rw [e44, e45, e46, e48, e51, e52]
  exact h
theorem scz_scr : ∀ k j, scz k j = true → scr k j = true := by
  intro k j h
  unfold scz at h
  simp at h
  rcases h with rfl | rfl | rfl <;> rfl
theorem scd_scr : ∀ k j, scd k j = true → scr k j = true := by
  intro k j h
  unfold scd at h
  simp at h
  rcases h with (⟨rfl, h⟩ | rfl) | rfl
  · rcases h with ((rfl | rfl) | (rfl | rfl)) | rfl <;> rfl
  · rfl
  · rfl
theorem mkX_le {X : MX} : xle X (mkX X) := ⟨fun k j h => mjU_ob (by omega), fun _ _ => rfl, Nat.le_refl _⟩
theorem mkX_grw {X : MX} : grw X (mkX X) := grw.rf
theorem xle_of {X Y : MX} (h : Y = X ∨ Y = mkX X) : xle X Y := by
  rcases h with rfl | rfl
  · exact xle.rf
  · exact mkX_le
theorem grw_of {X Y : MX} (h : Y = X ∨ Y = mkX X) : grw X Y := by
  rcases h with rfl | rfl
  · exact grw.rf
  · exact grw.rf
theorem CALL.scr {d nx nm : Nat} {ax am : List Value} (h : ∀ I X, RI I X → ∃ v, (∃ J Y, mjEv d nx ax (mjH I X) (.inl (some (.int v))) (mjH J Y) ∧ eqN (X.2.2.2.1 + 75) I J ∧ xle X Y ∧ grw X Y) ∧ ∀ J Y, RI J Y → eqN (X.2.2.2.1 + 75) I J → xle X Y → ∃ L, mjEv d nm am (mjH J Y) (.inl (some (.int v))) (mjH L Y) ∧ eqN (Y.2.2.2.1 + 75) J L) : CALL d nx nm ax am := fun I X hR _ => by
  obtain ⟨v, ⟨J, Y, h1, h2, h3, h4⟩, h5⟩ := h I X hR
  have hRJ := hR.eq h2 h3
  obtain ⟨L, h6, h7⟩ := h5 J Y hRJ h2 h3
  exact ⟨v, J, Y, h1, L, Y, h6, hRJ.eq h7 xle.rf, h4⟩
theorem CALL.scrN {d nx nm : Nat} {ax am : List Value} (h : ∀ I X, RI I X → X.2.2.2.1 ≤ 800000 → ∃ v, (∃ J Y, mjEv d nx ax (mjH I X) (.inl (some (.int v))) (mjH J Y) ∧ eqN (X.2.2.2.1 + 75) I J ∧ xle X Y ∧ grw X Y) ∧ ∀ J Y, RI J Y → eqN (X.2.2.2.1 + 75) I J → xle X Y → ∃ L, mjEv d nm am (mjH J Y) (.inl (some (.int v))) (mjH L Y) ∧ eqN (Y.2.2.2.1 + 75) J L) : CALL d nx nm ax am := fun I X hR hN => by
  obtain ⟨v, ⟨J, Y, h1, h2, h3, h4⟩, h5⟩ := h I X hR hN
  have hRJ := hR.eq h2 h3
  obtain ⟨L, h6, h7⟩ := h5 J Y hRJ h2 h3
  exact ⟨v, J, Y, h1, L, Y, h6, hRJ.eq h7 xle.rf, h4⟩
theorem mD_len {I : Nat → Nat → Int32} {np n9 wn : Nat} {k f dr law : Int32} (ho : mOk I np n9) (hwn : wn ≤ 719) : (mD I np n9 k f dr wn law).2.2.1.2.length ≤ 13 := by
  unfold mD
  split
  · exact dyS_len13 hwn ho.2.2.2 ho.2.1
  · exact dyS_len13 hwn ho.2.2.2 ho.2.1
theorem c_mDayOf (d : Nat) {i kd wn np n9 nl lw : Nat} {I : Nat → Nat → Int32} {X : MX} (hb : MB I i kd wn np n9 nl lw) : mjEvP (d + 4) nyX12_dayOf_ [.ref 43, .int (nI i)] (mjH I X) (mDayP I X n9 (mD I np n9 (nI kd) (I 49 i) (I 50 i) wn (nI lw))) := by
  obtain ⟨ho, hn, h44, hi, m48, m51, hwn, m443⟩ := hb
  refine mjEvP.of ?_
  show mjGo (d + 4) nyX12_dayOf_ 0 ([some (.ref 43), some (.int (nI i))], [], mjH I X) _
  refine mjGo.run 4 (pc' := 6) (F' := ([some (.ref 43), some (.int (nI i))], [.int (nI i), .ref 48, .ref 43], mjH I X)) (fun _ => rfl) ?_
  refine mjGo.op (pc' := 7) (F' := ([some (.ref 43), some (.int (nI i))], [.int (I 48 i), .ref 43], mjH I X)) (o := mjiald 7) rfl (fun _ => mjald_n (n := 6) (by omega) (by decide) (rfl) (rfl)) ?_
  refine mjGo.run 3 (pc' := 12) (F' := ([some (.ref 43), some (.int (nI i))], [.int (nI i), .ref 49, .int (I 48 i), .ref 43], mjH I X)) (fun _ => rfl) ?_
  refine mjGo.op (pc' := 13) (F' := ([some (.ref 43), some (.int (nI i))], [.int (I 49 i), .int (I 48 i), .ref 43], mjH I X)) (o := mjiald 13) rfl (fun _ => mjald_n (n := 6) (by omega) (by decide) (rfl) (rfl)) ?_
  refine mjGo.run 3 (pc' := 18) (F' := ([some (.ref 43), some (.int (nI i))], [.int (nI i), .ref 50, .int (I 49 i), .int (I 48 i), .ref 43], mjH I X)) (fun _ => rfl) ?_
  refine mjGo.op (pc' := 19) (F' := ([some (.ref 43), some (.int (nI i))], [.int (I 50 i), .int (I 49 i), .int (I 48 i), .ref 43], mjH I X)) (o := mjiald 19) rfl (fun _ => mjald_n (n := 6) (by omega) (by decide) (rfl) (rfl)) ?_
  refine mjGo.run 3 (pc' := 24) (F' := ([some (.ref 43), some (.int (nI i))], [.int (nI i), .ref 51, .int (I 50 i), .int (I 49 i), .int (I 48 i), .ref 43], mjH I X)) (fun _ => rfl) ?_
  refine mjGo.op (pc' := 25) (F' := ([some (.ref 43), some (.int (nI i))], [.int (I 51 i), .int (I 50 i), .int (I 49 i), .int (I 48 i), .ref 43], mjH I X)) (o := mjiald 25) rfl (fun _ => mjald_n (n := 6) (by omega) (by decide) (rfl) (rfl)) ?_
  refine mjGo.run 4 (pc' := 31) (F' := ([some (.ref 43), some (.int (nI i))], [.int (I 44 3), .int (I 51 i), .int (I 50 i), .int (I 49 i), .int (I 48 i), .ref 43], mjH I X)) (fun _ => rfl) ?_
  obtain ⟨o9, h9, hev, J, rfl, heJ, hdJ, rfl⟩ := c_mDay _ (k := nI kd) (f := (I 49 i)) (dr := (I 50 i)) (wn := wn) (law := (nI lw)) (X := X) ho (eqO.rf (I := I)) hwn
  refine mjGo.call (n := 6) (j := 151) (nx := 34) (o := some (.int (dyCost (mD I np n9 (nI kd) (I 49 i) (I 50 i) wn (nI lw))))) (h' := mjH J X) (fun _ => rfl) ((by rw [m48, m51, m443]; exact hev)) ?_
  show mjGo _ _ 34 ([some (.ref 43), some (.int (nI i))], [.int (dyCost (mD I np n9 (nI kd) (I 49 i) (I 50 i) wn (nI lw)))], mjH J X) _
  exact mjGo.ret 1 (fun _ => rfl) ⟨_, rfl, J, rfl, heJ, hdJ, rfl⟩
def dayV (s : dyT) (q : Int32) : Int32 := if mIn q 0 4 = 0 then -1 else if q = 0 then dyCost s else if q = 1 then nI s.2.2.1.2.length else if q = 2 then s.2.2.2.1 else if q = 3 then s.2.2.2.2.2.1 else s.2.2.1.1
theorem x_day (d : Nat) (q : Int32) {np n9 nl lw i a kd wn : Nat} {I : Nat → Nat → Int32} {X : MX} (ho : xOk I np n9) (hn : nl ≤ 6) (h16 : I 1 6 = nI nl) (hi : i < nl) (hl : lkR I X 1 44 i a kd wn) (hlw : lw < 3) (h18 : I 1 8 = nI lw) : mjEvP (d + 6) nyX11_day [.ref 0, .int (nI i), .int q] (mjH I X) (fun o h2 => ∃ J Y, h2 = mjH J Y ∧ eqO scz I J ∧ (Y = X ∨ Y = mkX X) ∧ o = some (.int (dayV (mD I np n9 (nI kd) (I 49 i) (I 50 i) wn (nI lw)) q))) := by
  obtain ⟨hP, hlk, l0, l1, l2, l3, l4, hwn, l5, hdr⟩ := hl
  refine mjEvP.of ?_
  show mjGo (d + 6) nyX11_day 0 ([some (.ref 0), some (.int (nI i)), some (.int q), none], [], mjH I X) _
  refine mjGo.run 2 (pc' := 2) (F' := ([some (.ref 0), some (.int (nI i)), some (.int q), none], [.int (nI i), .ref 0], mjH I X)) (fun _ => rfl) ?_
  refine mjGo.call (n := 2) (j := 91) (nx := 5) (o := some (.ref a)) (h' := mjH I X) (fun _ => rfl) (c_lkYes _ hn h16 hi hP) ?_
  show mjGo _ _ 5 ([some (.ref 0), some (.int (nI i)), some (.int q), none], [.ref a], mjH I X) _
  refine mjGo.run 9 (pc' := 22) (F' := ([some (.ref 0), some (.int (nI i)), some (.int q), some (.ref a)], [.ref a, .ref a, .ref 1, .ref 19], mjH I X)) (fun _ => rfl) ?_
  refine mjGo.op (pc' := 25) (F' := ([some (.ref 0), some (.int (nI i)), some (.int q), some (.ref a)], [.int (I 50 i), .ref a, .ref 1, .ref 19], mjH I X)) (o := mjgetI [0, 1, 2, 4, 5, 7, 8, 9] 2 25) rfl (fun _ => lkK_get hlk l2) ?_
  refine mjGo.run 3 (pc' := 32) (F' := ([some (.ref 0), some (.int (nI i)), some (.int q), some (.ref a)], [.int (I 1 8), .int (I 50 i), .ref a, .ref 1, .ref 19], mjH I X)) (fun _ => rfl) ?_
  obtain ⟨o9, h9, hev, rfl, J, rfl, heJ, hDJ, h3J⟩ := c_xLive _ (X := X) (I0 := I) (I := I) (fg := I 49 i) (dr := (I 50 i)) (lw := lw) hlk ho eqO.rf l1 l3 hwn hdr hlw
  refine mjGo.call (n := 5) (j := 44) (nx := 35) (o := none) (h' := mjH J (mkX X)) (fun _ => rfl) ((by rw [h18]; exact hev)) ?_
  show mjGo _ _ 35 ([some (.ref 0), some (.int (nI i)), some (.int q), some (.ref a)], [], mjH J (mkX X)) _
  refine mjGo.run 2 (pc' := (bif decide (q = 0) then 72 else (bif decide (q = 1) then 80 else (bif decide (q = 2) then 88 else (bif decide (q = 3) then 96 else (bif decide (q = 4) then 104 else 112)))))) (F' := ([some (.ref 0), some (.int (nI i)), some (.int q), some (.ref a)], [], mjH J (mkX X))) (fun _ => rfl) ?_
  refine mjGo.br (fun q1 => ?_) (fun q1 => ?_)
  · show mjGo _ _ 72 _ _
    refine mjGo.ret 4 (fun _ => rfl) ⟨_, rfl, J, mkX X, rfl, heJ, Or.inr rfl, ?_⟩
    have e := q1
    subst e
    exact congrArg (fun x => some (Value.int x)) (xDS_cost hDJ)
  refine mjGo.br (fun q2 => ?_) (fun q2 => ?_)
  · show mjGo _ _ 80 _ _
    refine mjGo.ret 4 (fun _ => rfl) ⟨_, rfl, J, mkX X, rfl, heJ, Or.inr rfl, ?_⟩
    have e := q2
    subst e
    exact congrArg (fun x => some (Value.int x)) (hDJ.1.2.2.2.1)
  refine mjGo.br (fun q3 => ?_) (fun q3 => ?_)
  · show mjGo _ _ 88 _ _
    refine mjGo.ret 4 (fun _ => rfl) ⟨_, rfl, J, mkX X, rfl, heJ, Or.inr rfl, ?_⟩
    have e := q3
    subst e
    exact congrArg (fun x => some (Value.int x)) (hDJ.2.2.1)
  refine mjGo.br (fun q4 => ?_) (fun q4 => ?_)
  · show mjGo _ _ 96 _ _
    refine mjGo.ret 4 (fun _ => rfl) ⟨_, rfl, J, mkX X, rfl, heJ, Or.inr rfl, ?_⟩
    have e := q4
    subst e
    exact congrArg (fun x => some (Value.int x)) (hDJ.2.2.2.1)
  refine mjGo.br (fun q5 => ?_) (fun q5 => ?_)
  · show mjGo _ _ 104 _ _
    refine mjGo.ret 4 (fun _ => rfl) ⟨_, rfl, J, mkX X, rfl, heJ, Or.inr rfl, ?_⟩
    have e := q5
    subst e
    exact congrArg (fun x => some (Value.int x)) (hDJ.1.2.1)
  show mjGo _ _ 112 _ _
  refine mjGo.ret 2 (fun _ => rfl) ⟨_, rfl, J, mkX X, rfl, heJ, Or.inr rfl, ?_⟩
  unfold dayV
  rcases q_cases 4 (by omega) q with ⟨j, hj, rfl, e⟩ | ⟨e, hj⟩
  · match j, hj with
    | 0, _ => exact absurd rfl q1
    | 1, _ => exact absurd rfl q2
    | 2, _ => exact absurd rfl q3
    | 3, _ => exact absurd rfl q4
    | 4, _ => exact absurd rfl q5
  · rw [if_pos (show mIn q 0 4 = 0 from e)]
theorem m_day (d : Nat) (q : Int32) {i kd wn np n9 nl lw : Nat} {I : Nat → Nat → Int32} {X : MX} (hb : MB I i kd wn np n9 nl lw) : mjEvP (d + 6) nyX12_day [.ref 43, .int (nI i), .int q] (mjH I X) (fun o h2 => ∃ J, h2 = mjH J X ∧ eqO scd I J ∧ o = some (.int (dayV (mD I np n9 (nI kd) (I 49 i) (I 50 i) wn (nI lw)) q))) := by
  have ⟨ho, hn, h44, hi, m48, m51, hwn, m443⟩ := hb
  refine mjEvP.of ?_
  show mjGo (d + 6) nyX12_day 0 ([some (.ref 43), some (.int (nI i)), some (.int q), none], [], mjH I X) _
  refine mjGo.run 2 (pc' := 2) (F' := ([some (.ref 43), some (.int (nI i)), some (.int q), none], [.int (nI i), .ref 43], mjH I X)) (fun _ => rfl) ?_
  refine mjGo.call (n := 2) (j := 138) (nx := 5) (o := some (.int 1)) (h' := mjH I X) (fun _ => rfl) ((by have q := c_mIsL (d + 4) (nI i) (I := I) (X := X); rw [mIsL, h44, mIn_yes hi (by omega)] at q; exact q)) ?_
  show mjGo _ _ 5 ([some (.ref 43), some (.int (nI i)), some (.int q), none], [.int 1], mjH I X) _
  refine mjGo.run 4 (pc' := 11) (F' := ([some (.ref 43), some (.int (nI i)), some (.int q), none], [.int 4, .int 0, .int q], mjH I X)) (fun _ => rfl) ?_
  refine mjGo.call (n := 3) (j := 132) (nx := 14) (o := some (.int (mIn q 0 4))) (h' := mjH I X) (fun _ => rfl) (c_mIn (d + 5) q 0 4 _) ?_
  show mjGo _ _ 14 ([some (.ref 43), some (.int (nI i)), some (.int q), none], [.int (mIn q 0 4)], mjH I X) _
  refine mjGo.run 1 (pc' := (bif decide ((mIn q 0 4) ≠ 0) then 19 else 17)) (F' := ([some (.ref 43), some (.int (nI i)), some (.int q), none], [], mjH I X)) (fun _ => rfl) ?_
  refine mjGo.br (fun q1 => ?_) (fun q1 => ?_)
  · show mjGo _ _ 19 _ _
    refine mjGo.run 2 (pc' := 21) (F' := ([some (.ref 43), some (.int (nI i)), some (.int q), none], [.int (nI i), .ref 43], mjH I X)) (fun _ => rfl) ?_
    obtain ⟨o9, h9, hev, J, rfl, heJ, hdJ, rfl⟩ := c_mDayOf _ (X := X) hb
    refine mjGo.call (n := 2) (j := 153) (nx := 24) (o := some (.int (dyCost (mD I np n9 (nI kd) (I 49 i) (I 50 i) wn (nI lw))))) (h' := mjH J X) (fun _ => rfl) (hev) ?_
    show mjGo _ _ 24 ([some (.ref 43), some (.int (nI i)), some (.int q), none], [.int (dyCost (mD I np n9 (nI kd) (I 49 i) (I 50 i) wn (nI lw)))], mjH J X) _
    refine mjGo.run 3 (pc' := (bif decide (q ≠ 0) then 33 else 29)) (F' := ([some (.ref 43), some (.int (nI i)), some (.int q), some (.int (dyCost (mD I np n9 (nI kd) (I 49 i) (I 50 i) wn (nI lw))))], [], mjH J X)) (fun _ => rfl) ?_
    refine mjGo.br (fun q2 => ?_) (fun q2 => ?_)
    · show mjGo _ _ 33 _ _
      refine mjGo.run 3 (pc' := (bif decide (q ≠ 1) then 45 else 38)) (F' := ([some (.ref 43), some (.int (nI i)), some (.int q), some (.int (dyCost (mD I np n9 (nI kd) (I 49 i) (I 50 i) wn (nI lw))))], [], mjH J X)) (fun _ => rfl) ?_
      refine mjGo.br (fun q3 => ?_) (fun q3 => ?_)
      · show mjGo _ _ 45 _ _
        refine mjGo.run 3 (pc' := (bif decide (q ≠ 2) then 57 else 50)) (F' := ([some (.ref 43), some (.int (nI i)), some (.int q), some (.int (dyCost (mD I np n9 (nI kd) (I 49 i) (I 50 i) wn (nI lw))))], [], mjH J X)) (fun _ => rfl) ?_
        refine mjGo.br (fun q4 => ?_) (fun q4 => ?_)
        · show mjGo _ _ 57 _ _
          refine mjGo.run 3 (pc' := (bif decide (q ≠ 3) then 69 else 62)) (F' := ([some (.ref 43), some (.int (nI i)), some (.int q), some (.int (dyCost (mD I np n9 (nI kd) (I 49 i) (I 50 i) wn (nI lw))))], [], mjH J X)) (fun _ => rfl) ?_
          refine mjGo.br (fun q5 => ?_) (fun q5 => ?_)
          · show mjGo _ _ 69 _ _
            refine mjGo.ret 3 (fun _ => rfl) ⟨_, rfl, J, rfl, heJ, ?_⟩
            unfold dayV
            rw [if_neg q1, if_neg q2, if_neg q3, if_neg q4, if_neg q5]
            exact congrArg (fun x => some (Value.int x)) (hdJ.1.1)
          · show mjGo _ _ 62 _ _
            refine mjGo.ret 4 (fun _ => rfl) ⟨_, rfl, J, rfl, heJ, ?_⟩
            unfold dayV
            rw [if_neg q1, if_neg q2, if_neg q3, if_neg q4, if_pos (Decidable.not_not.mp q5)]
            exact congrArg (fun x => some (Value.int x)) (hdJ.2.2.2.1)
        · show mjGo _ _ 50 _ _
          refine mjGo.ret 4 (fun _ => rfl) ⟨_, rfl, J, rfl, heJ, ?_⟩
          unfold dayV
          rw [if_neg q1, if_neg q2, if_neg q3, if_pos (Decidable.not_not.mp q4)]
          exact congrArg (fun x => some (Value.int x)) (hdJ.2.1)
      · show mjGo _ _ 38 _ _
        refine mjGo.ret 4 (fun _ => rfl) ⟨_, rfl, J, rfl, heJ, ?_⟩
        unfold dayV
        rw [if_neg q1, if_neg q2, if_pos (Decidable.not_not.mp q3)]
        exact congrArg (fun x => some (Value.int x)) (hdJ.1.2.1)
    · show mjGo _ _ 29 _ _
      refine mjGo.ret 3 (fun _ => rfl) ⟨_, rfl, J, rfl, heJ, ?_⟩
      unfold dayV
      rw [if_neg q1, if_pos (Decidable.not_not.mp q2)]
  · show mjGo _ _ 17 _ _
    refine mjGo.ret 2 (fun _ => rfl) ⟨_, rfl, I, rfl, eqO.rf, ?_⟩
    unfold dayV
    rw [if_pos (Decidable.not_not.mp q1)]
def xp_dayN (I : Nat → Nat → Int32) (k q : Int32) : Int32 := (-1)
theorem c_xp_dayN (d : Nat) {I : Nat → Nat → Int32} {X : MX} (k q : Int32) {nl : Nat} (hn : nl ≤ 6) (h16 : I 1 6 = nI nl) (hno : mIn k 0 (nI nl - 1) = 0) : mjEv (d + 6) nyX11_day [.ref 0, .int k, .int q] (mjH I X) (.inl (some (.int (xp_dayN I k q)))) (mjH I X) := by
  refine mjEv.of ?_
  show mjGo (d + 6) nyX11_day 0 ([some (.ref 0), some (.int k), some (.int q), none], [], mjH I X) _
  refine mjGo.run 2 (pc' := 2) (F' := ([some (.ref 0), some (.int k), some (.int q), none], [.int k, .ref 0], mjH I X)) (fun _ => rfl) ?_
  refine mjGo.call (n := 2) (j := 91) (nx := 5) (o := some (.null)) (h' := mjH I X) (fun _ => rfl) (c_lkNo _ hn h16 hno) ?_
  show mjGo _ _ 5 ([some (.ref 0), some (.int k), some (.int q), none], [.null], mjH I X) _
  have e9 : xp_dayN I k q = (-1) := by unfold xp_dayN; rfl
  rw [e9]
  exact mjGo.ret 5 (fun _ => rfl) rfl
def mp_dayN (I : Nat → Nat → Int32) (k q : Int32) : Int32 := (-1)
theorem c_mp_dayN (d : Nat) {I : Nat → Nat → Int32} {X : MX} (k q : Int32) {nl : Nat} (h44 : I 44 1 = nI nl) (hno : mIn k 0 (nI nl - 1) = 0) : mjEv (d + 6) nyX12_day [.ref 43, .int k, .int q] (mjH I X) (.inl (some (.int (mp_dayN I k q)))) (mjH I X) := by
  refine mjEv.of ?_
  show mjGo (d + 6) nyX12_day 0 ([some (.ref 43), some (.int k), some (.int q), none], [], mjH I X) _
  refine mjGo.run 2 (pc' := 2) (F' := ([some (.ref 43), some (.int k), some (.int q), none], [.int k, .ref 43], mjH I X)) (fun _ => rfl) ?_
  refine mjGo.call (n := 2) (j := 138) (nx := 5) (o := some (.int 0)) (h' := mjH I X) (fun _ => rfl) ((by have q := c_mIsL (d + 4) k (I := I) (X := X); rw [mIsL, h44, hno] at q; exact q)) ?_
  show mjGo _ _ 5 ([some (.ref 43), some (.int k), some (.int q), none], [.int 0], mjH I X) _
  have e9 : mp_dayN I k q = (-1) := by unfold mp_dayN; rfl
  rw [e9]
  exact mjGo.ret 3 (fun _ => rfl) rfl
theorem k_day (d : Nat) (k q : Int32) : CALL (d + 12) nyX11_day nyX12_day [.ref 0, .int k, .int q] [.ref 43, .int k, .int q] := CALL.scr fun I X hR => by
  obtain ⟨np, n9, nl, lw, ho, ⟨hn, h16, h44⟩, ⟨hlw, h18, h443⟩, hlk⟩ := hR.lk
  by_cases h : mIn k 0 (nI nl - 1) = 0
  · refine ⟨_, ⟨I, X, c_xp_dayN (d + 6) k q hn h16 h, eqN.rf, xle.rf, grw.rf⟩, fun J Y hJ e hx => ?_⟩
    have q := c_mp_dayN (d + 6) (I := J) (X := Y) k q ((e 44 1 rfl (by omega)).trans h44) h
    exact ⟨J, q, eqN.rf⟩
  · obtain ⟨i, hi, rfl⟩ := mIn_no h (by omega)
    obtain ⟨a, kd, wn, hl⟩ := hlk i hi
    have hb : MB I i kd wn np n9 nl lw := ⟨ho.2.2.2.2.2.2, hn, h44, hi, hl.2.2.2.2.2.2.2.2.1, hl.2.2.2.2.2.2.1, hl.2.2.2.2.2.2.2.1, h443⟩
    obtain ⟨o, h9, hev, J, Y, rfl, hJ, hY, rfl⟩ := x_day (d + 6) q ho hn h16 hi hl hlw h18
    refine ⟨_, ⟨J, Y, hev, eqN.of hJ scz_scr, xle_of hY, grw_of hY⟩, fun J Y hRJ e hx => ?_⟩
    obtain ⟨hb2, e49, e50, eD⟩ := hb.eq e (by omega)
    obtain ⟨o, h9, hev, L, rfl, hL, rfl⟩ := m_day (d + 6) q (X := Y) hb2
    rw [e49, e50, eD] at hev
    exact ⟨L, hev, eqN.of hL scd_scr⟩
