/-! town: the class goes through the draft -/
theorem fld_told {g : Nat → Int32} {p i : Nat} (h : g p ≠ 107) : fld g p i = (stV g p).getD i 0 := congrFun (fld_o h) i
theorem fld_told7 {g : Nat → Int32} {p : Nat} (h : g p = 107) : fld g p 0 = (stV g p).getD 0 0 ∧ fld g p 1 = (stV g p).getD 1 0 ∧ fld g p 2 = (stV g p).getD 2 0 * (stV g p).getD 3 0 ∧ fld g p 3 = (stV g p).getD 4 0 := by
  rw [fld_107 h]
  exact ⟨rfl, rfl, rfl, rfl⟩
theorem c_tk119 (d : Nat) {I0 : Nat → Nat → Int32} {X0 : MX} {n0 : Nat} {s : TS} {J : Nat → Nat → Int32} {Y : MX} {g : Nat → Int32} {p : Nat} (h : dR I0 X0 n0 s J Y) (hVB : VB s) (hN : Y.2.2.2.1 + 75 < 900000) (hl : g p = 119) (hT : ∀ i, i < lfn (g p) → J 22 i = (stV g p).getD i 0) : ∃ J2 Y2, mjEv (d + 6) nyX10_takes [.ref 7, .int 119, .ref 22] (mjH J Y) (.inl (some (.int (bI (okB s 119 (fld g p)))))) (mjH J2 Y2) ∧ (okB s 119 (fld g p) = true → dR I0 X0 n0 (stp s 119 (fld g p)) J2 Y2) ∧ (okB s 119 (fld g p) = false → J2 = J ∧ Y2 = Y) ∧ ∀ k, k ≠ 22 → k < 7 ∨ 12 < k → k < Y.2.2.2.1 + 75 → J2 k = J k := by
  obtain ⟨a, b, c, ⟨ha, hb, hc⟩, f0, f1, f2⟩ := fb_119 hl
  rw [hl] at hT
  rw [okB_119]
  have ⟨⟨c1, c2, c3, lw, c4, c5, c6⟩, h2, h3, h4, h5, h6, h7, h8, h9, h10, h11⟩ := h
  have hne : g p ≠ 107 := by rw [hl]; decide
  have t0 : J 22 0 = nI a := (hT 0 (by decide)).trans ((fld_told hne).symm.trans f0)
  have t1 : J 22 1 = nI b := (hT 1 (by decide)).trans ((fld_told hne).symm.trans f1)
  have t2 : J 22 2 = fld g p 2 := (hT 2 (by decide)).trans (fld_told hne).symm
  have hla : laT s = if s.2.1 = 0 then -1 else J 8 (s.2.1 - 1) := by
    unfold laT
    by_cases z : s.2.1 = 0
    · rw [if_pos z, if_pos z]
    · rw [if_neg z, if_neg z, (h2 _ (by have := hVB.2.1; omega)).1]
  by_cases ho : s.2.1 < 5 ∧ fld g p 0 ≤ 719 ∧ laT s < fld g p 0 ∧ fld g p 1 ≤ 59
  all_goals first | rw [decide_eq_true ho] | rw [decide_eq_false ho]
  · refine ⟨(mjU (mjU (mjU (mjU J 8 s.2.1 (nI a)) 9 s.2.1 (nI b)) 10 s.2.1 (fld g p 2)) 7 5 (nI (s.2.1 + 1))), Y, ?_, fun _ => dR_119 h ha hb f0 f1 ho, fun w => absurd w (by decide), fun k q1 q2 q3 => by rw [mjU_r (by omega), mjU_r (by omega), mjU_r (by omega), mjU_r (by omega)]⟩
    refine mjEv.of ?_
    show mjGo (d + 6) nyX10_takes 0 ([some (.ref 7), some (.int 119), some (.ref 22)], [], mjH J Y) _
    refine mjGo.run 10 (pc' := 56) (F' := ([some (.ref 7), some (.int 119), some (.ref 22)], [.int (J 22 0), .ref 7], mjH J Y)) (fun _ => rfl) ?_
    refine mjGo.run 0 (pc' := 56) (F' := ([some (.ref 7), some (.int 119), some (.ref 22)], [.int (J 22 0), .ref 7], mjH J Y)) (fun _ => rfl) ?_
    rw [show (J 22 0) = (nI a) from t0]
    refine mjGo.run 3 (pc' := 59) (F' := ([some (.ref 7), some (.int 119), some (.ref 22)], [.int (J 22 1), .int (nI a), .ref 7], mjH J Y)) (fun _ => rfl) ?_
    refine mjGo.run 0 (pc' := 59) (F' := ([some (.ref 7), some (.int 119), some (.ref 22)], [.int (J 22 1), .int (nI a), .ref 7], mjH J Y)) (fun _ => rfl) ?_
    rw [show (J 22 1) = (nI b) from t1]
    refine mjGo.run 3 (pc' := 62) (F' := ([some (.ref 7), some (.int 119), some (.ref 22)], [.int (J 22 2), .int (nI b), .int (nI a), .ref 7], mjH J Y)) (fun _ => rfl) ?_
    refine mjGo.run 0 (pc' := 62) (F' := ([some (.ref 7), some (.int 119), some (.ref 22)], [.int (J 22 2), .int (nI b), .int (nI a), .ref 7], mjH J Y)) (fun _ => rfl) ?_
    rw [show (J 22 2) = (fld g p 2) from t2]
    refine mjGo.call (n := 4) (j := 70) (nx := 65) (o := some (.int 1)) (h' := mjH (mjU (mjU (mjU (mjU J 8 s.2.1 (nI a)) 9 s.2.1 (nI b)) 10 s.2.1 (fld g p 2)) 7 5 (nI (s.2.1 + 1))) Y) (fun _ => rfl) (c_tkWY (d + 4) c1 hVB.2.1 ha hb hla ho.1 (f0 ▸ ho.2.1) (f0 ▸ ho.2.2.1) (f1 ▸ ho.2.2.2)) ?_
    show mjGo _ _ 65 ([some (.ref 7), some (.int 119), some (.ref 22)], [.int 1], mjH (mjU (mjU (mjU (mjU J 8 s.2.1 (nI a)) 9 s.2.1 (nI b)) 10 s.2.1 (fld g p 2)) 7 5 (nI (s.2.1 + 1))) Y) _
    exact mjGo.ret 1 (fun _ => rfl) rfl
  · refine ⟨J, Y, ?_, fun w => absurd w (by decide), fun _ => ⟨rfl, rfl⟩, fun _ _ _ _ => rfl⟩
    refine mjEv.of ?_
    show mjGo (d + 6) nyX10_takes 0 ([some (.ref 7), some (.int 119), some (.ref 22)], [], mjH J Y) _
    refine mjGo.run 10 (pc' := 56) (F' := ([some (.ref 7), some (.int 119), some (.ref 22)], [.int (J 22 0), .ref 7], mjH J Y)) (fun _ => rfl) ?_
    refine mjGo.run 0 (pc' := 56) (F' := ([some (.ref 7), some (.int 119), some (.ref 22)], [.int (J 22 0), .ref 7], mjH J Y)) (fun _ => rfl) ?_
    rw [show (J 22 0) = (nI a) from t0]
    refine mjGo.run 3 (pc' := 59) (F' := ([some (.ref 7), some (.int 119), some (.ref 22)], [.int (J 22 1), .int (nI a), .ref 7], mjH J Y)) (fun _ => rfl) ?_
    refine mjGo.run 0 (pc' := 59) (F' := ([some (.ref 7), some (.int 119), some (.ref 22)], [.int (J 22 1), .int (nI a), .ref 7], mjH J Y)) (fun _ => rfl) ?_
    rw [show (J 22 1) = (nI b) from t1]
    refine mjGo.run 3 (pc' := 62) (F' := ([some (.ref 7), some (.int 119), some (.ref 22)], [.int (J 22 2), .int (nI b), .int (nI a), .ref 7], mjH J Y)) (fun _ => rfl) ?_
    refine mjGo.run 0 (pc' := 62) (F' := ([some (.ref 7), some (.int 119), some (.ref 22)], [.int (J 22 2), .int (nI b), .int (nI a), .ref 7], mjH J Y)) (fun _ => rfl) ?_
    rw [show (J 22 2) = (fld g p 2) from t2]
    refine mjGo.call (n := 4) (j := 70) (nx := 65) (o := some (.int 0)) (h' := mjH J Y) (fun _ => rfl) (c_tkWN (d + 4) c1 hVB.2.1 ha hb hla (fun w => ho ⟨w.1, by rw [f0]; exact w.2.1, by rw [f0]; exact w.2.2.1, by rw [f1]; exact w.2.2.2⟩)) ?_
    show mjGo _ _ 65 ([some (.ref 7), some (.int 119), some (.ref 22)], [.int 0], mjH J Y) _
    exact mjGo.ret 1 (fun _ => rfl) rfl
theorem c_tk112 (d : Nat) {I0 : Nat → Nat → Int32} {X0 : MX} {n0 : Nat} {s : TS} {J : Nat → Nat → Int32} {Y : MX} {g : Nat → Int32} {p : Nat} (h : dR I0 X0 n0 s J Y) (hVB : VB s) (hN : Y.2.2.2.1 + 75 < 900000) (hl : g p = 112) (hT : ∀ i, i < lfn (g p) → J 22 i = (stV g p).getD i 0) : ∃ J2 Y2, mjEv (d + 6) nyX10_takes [.ref 7, .int 112, .ref 22] (mjH J Y) (.inl (some (.int (bI (okB s 112 (fld g p)))))) (mjH J2 Y2) ∧ (okB s 112 (fld g p) = true → dR I0 X0 n0 (stp s 112 (fld g p)) J2 Y2) ∧ (okB s 112 (fld g p) = false → J2 = J ∧ Y2 = Y) ∧ ∀ k, k ≠ 22 → k < 7 ∨ 12 < k → k < Y.2.2.2.1 + 75 → J2 k = J k := by
  obtain ⟨a, ha, f0⟩ := fb_112 hl
  rw [hl] at hT
  rw [okB_112]
  have ⟨⟨c1, c2, c3, lw, c4, c5, c6⟩, h2, h3, h4, h5, h6, h7, h8, h9, h10, h11⟩ := h
  have hne : g p ≠ 107 := by rw [hl]; decide
  have t0 : J 22 0 = nI a := (hT 0 (by decide)).trans ((fld_told hne).symm.trans f0)
  have hla : plT s = if s.2.2.2 = 0 then -1 else J 12 (s.2.2.2 - 1) := by
    unfold plT
    by_cases z : s.2.2.2 = 0
    · rw [if_pos z, if_pos z]
    · rw [if_neg z, if_neg z, h3 _ (by have := hVB.2.2.2; omega)]
  by_cases ho : s.2.2.2 < 8 ∧ fld g p 0 ≤ 719 ∧ plT s < fld g p 0
  all_goals first | rw [decide_eq_true ho] | rw [decide_eq_false ho]
  · refine ⟨(mjU (mjU J 12 s.2.2.2 (nI a)) 7 7 (nI (s.2.2.2 + 1))), Y, ?_, fun _ => dR_112 h ha f0 ho, fun w => absurd w (by decide), fun k q1 q2 q3 => by rw [mjU_r (by omega), mjU_r (by omega)]⟩
    refine mjEv.of ?_
    show mjGo (d + 6) nyX10_takes 0 ([some (.ref 7), some (.int 112), some (.ref 22)], [], mjH J Y) _
    refine mjGo.run 10 (pc' := 99) (F' := ([some (.ref 7), some (.int 112), some (.ref 22)], [.int (J 22 0), .ref 7], mjH J Y)) (fun _ => rfl) ?_
    refine mjGo.run 0 (pc' := 99) (F' := ([some (.ref 7), some (.int 112), some (.ref 22)], [.int (J 22 0), .ref 7], mjH J Y)) (fun _ => rfl) ?_
    rw [show (J 22 0) = (nI a) from t0]
    refine mjGo.call (n := 2) (j := 74) (nx := 102) (o := some (.int 1)) (h' := mjH (mjU (mjU J 12 s.2.2.2 (nI a)) 7 7 (nI (s.2.2.2 + 1))) Y) (fun _ => rfl) (c_tkPY (d + 4) c3 hVB.2.2.2 ha hla ho.1 (f0 ▸ ho.2.1) (f0 ▸ ho.2.2)) ?_
    show mjGo _ _ 102 ([some (.ref 7), some (.int 112), some (.ref 22)], [.int 1], mjH (mjU (mjU J 12 s.2.2.2 (nI a)) 7 7 (nI (s.2.2.2 + 1))) Y) _
    exact mjGo.ret 1 (fun _ => rfl) rfl
  · refine ⟨J, Y, ?_, fun w => absurd w (by decide), fun _ => ⟨rfl, rfl⟩, fun _ _ _ _ => rfl⟩
    refine mjEv.of ?_
    show mjGo (d + 6) nyX10_takes 0 ([some (.ref 7), some (.int 112), some (.ref 22)], [], mjH J Y) _
    refine mjGo.run 10 (pc' := 99) (F' := ([some (.ref 7), some (.int 112), some (.ref 22)], [.int (J 22 0), .ref 7], mjH J Y)) (fun _ => rfl) ?_
    refine mjGo.run 0 (pc' := 99) (F' := ([some (.ref 7), some (.int 112), some (.ref 22)], [.int (J 22 0), .ref 7], mjH J Y)) (fun _ => rfl) ?_
    rw [show (J 22 0) = (nI a) from t0]
    refine mjGo.call (n := 2) (j := 74) (nx := 102) (o := some (.int 0)) (h' := mjH J Y) (fun _ => rfl) (c_tkPN (d + 4) c3 hVB.2.2.2 ha hla (fun w => ho ⟨w.1, by rw [f0]; exact w.2.1, by rw [f0]; exact w.2.2⟩)) ?_
    show mjGo _ _ 102 ([some (.ref 7), some (.int 112), some (.ref 22)], [.int 0], mjH J Y) _
    exact mjGo.ret 1 (fun _ => rfl) rfl
theorem c_tk108 (d : Nat) {I0 : Nat → Nat → Int32} {X0 : MX} {n0 : Nat} {s : TS} {J : Nat → Nat → Int32} {Y : MX} {g : Nat → Int32} {p : Nat} (h : dR I0 X0 n0 s J Y) (hVB : VB s) (hN : Y.2.2.2.1 + 75 < 900000) (hl : g p = 108) (hT : ∀ i, i < lfn (g p) → J 22 i = (stV g p).getD i 0) : ∃ J2 Y2, mjEv (d + 6) nyX10_takes [.ref 7, .int 108, .ref 22] (mjH J Y) (.inl (some (.int (bI (okB s 108 (fld g p)))))) (mjH J2 Y2) ∧ (okB s 108 (fld g p) = true → dR I0 X0 n0 (stp s 108 (fld g p)) J2 Y2) ∧ (okB s 108 (fld g p) = false → J2 = J ∧ Y2 = Y) ∧ ∀ k, k ≠ 22 → k < 7 ∨ 12 < k → k < Y.2.2.2.1 + 75 → J2 k = J k := by
  obtain ⟨a, ha, f0⟩ := fb_108 hl
  rw [hl] at hT
  rw [okB_108]
  have ⟨⟨c1, c2, c3, lw, c4, c5, c6⟩, h2, h3, h4, h5, h6, h7, h8, h9, h10, h11⟩ := h
  have hne : g p ≠ 107 := by rw [hl]; decide
  have t0 : J 22 0 = nI a := (hT 0 (by decide)).trans ((fld_told hne).symm.trans f0)
  by_cases ho : fld g p 0 ≤ 2
  all_goals first | rw [decide_eq_true ho] | rw [decide_eq_false ho]
  · refine ⟨(mjU J 7 8 (nI a)), Y, ?_, fun _ => dR_108 h ha f0 ho, fun w => absurd w (by decide), fun k q1 q2 q3 => by rw [mjU_r (by omega)]⟩
    refine mjEv.of ?_
    show mjGo (d + 6) nyX10_takes 0 ([some (.ref 7), some (.int 108), some (.ref 22)], [], mjH J Y) _
    refine mjGo.run 10 (pc' := 91) (F' := ([some (.ref 7), some (.int 108), some (.ref 22)], [.int (J 22 0), .ref 7], mjH J Y)) (fun _ => rfl) ?_
    refine mjGo.run 0 (pc' := 91) (F' := ([some (.ref 7), some (.int 108), some (.ref 22)], [.int (J 22 0), .ref 7], mjH J Y)) (fun _ => rfl) ?_
    rw [show (J 22 0) = (nI a) from t0]
    refine mjGo.call (n := 2) (j := 73) (nx := 94) (o := some (.int 1)) (h' := mjH (mjU J 7 8 (nI a)) Y) (fun _ => rfl) (c_tkLY (d + 5) ha (f0 ▸ ho)) ?_
    show mjGo _ _ 94 ([some (.ref 7), some (.int 108), some (.ref 22)], [.int 1], mjH (mjU J 7 8 (nI a)) Y) _
    exact mjGo.ret 1 (fun _ => rfl) rfl
  · refine ⟨J, Y, ?_, fun w => absurd w (by decide), fun _ => ⟨rfl, rfl⟩, fun _ _ _ _ => rfl⟩
    refine mjEv.of ?_
    show mjGo (d + 6) nyX10_takes 0 ([some (.ref 7), some (.int 108), some (.ref 22)], [], mjH J Y) _
    refine mjGo.run 10 (pc' := 91) (F' := ([some (.ref 7), some (.int 108), some (.ref 22)], [.int (J 22 0), .ref 7], mjH J Y)) (fun _ => rfl) ?_
    refine mjGo.run 0 (pc' := 91) (F' := ([some (.ref 7), some (.int 108), some (.ref 22)], [.int (J 22 0), .ref 7], mjH J Y)) (fun _ => rfl) ?_
    rw [show (J 22 0) = (nI a) from t0]
    refine mjGo.call (n := 2) (j := 73) (nx := 94) (o := some (.int 0)) (h' := mjH J Y) (fun _ => rfl) (c_tkLN (d + 5) ha (fun w => ho (by rw [f0]; exact w))) ?_
    show mjGo _ _ 94 ([some (.ref 7), some (.int 108), some (.ref 22)], [.int 0], mjH J Y) _
    exact mjGo.ret 1 (fun _ => rfl) rfl
theorem c_tk107 (d : Nat) {I0 : Nat → Nat → Int32} {X0 : MX} {n0 : Nat} {s : TS} {J : Nat → Nat → Int32} {Y : MX} {g : Nat → Int32} {p : Nat} (h : dR I0 X0 n0 s J Y) (hVB : VB s) (hN : Y.2.2.2.1 + 75 < 900000) (hl : g p = 107) (hT : ∀ i, i < lfn (g p) → J 22 i = (stV g p).getD i 0) : ∃ J2 Y2, mjEv (d + 6) nyX10_takes [.ref 7, .int 107, .ref 22] (mjH J Y) (.inl (some (.int (bI (okB s 107 (fld g p)))))) (mjH J2 Y2) ∧ (okB s 107 (fld g p) = true → dR I0 X0 n0 (stp s 107 (fld g p)) J2 Y2) ∧ (okB s 107 (fld g p) = false → J2 = J ∧ Y2 = Y) ∧ ∀ k, k ≠ 22 → k < 7 ∨ 12 < k → k < Y.2.2.2.1 + 75 → J2 k = J k := by
  obtain ⟨a, b, w9, ⟨ha, hb, hw⟩, f0, f1, f3⟩ := fb_107 hl
  rw [hl] at hT
  rw [okB_107]
  have ⟨⟨c1, c2, c3, lw, c4, c5, c6⟩, h2, h3, h4, h5, h6, h7, h8, h9, h10, h11⟩ := h
  obtain ⟨e0, e1, e2, e3⟩ := fld_told7 hl
  have t0 : J 22 0 = nI a := (hT 0 (by decide)).trans (e0.symm.trans f0)
  have t1 : J 22 1 = nI b := (hT 1 (by decide)).trans (e1.symm.trans f1)
  have t2 : J 22 2 * J 22 3 = fld g p 2 := by rw [hT 2 (by decide), hT 3 (by decide), e2]
  have t4 : J 22 4 = nI w9 := (hT 4 (by decide)).trans (e3.symm.trans f3)
  by_cases ho : s.2.2.1 < 6 ∧ fld g p 0 ≤ 7 ∧ ¬ mIn (fld g p 2) (-20) 20 = 0 ∧ fld g p 3 ≤ 719
  all_goals first | rw [decide_eq_true ho] | rw [decide_eq_false ho]
  · refine ⟨(mjU (lkI (nwI J Y) (Y.2.2.2.1 + 75) (nI s.2.2.1) (nI b) (fld g p 2) (nI w9)) 7 6 (nI (s.2.2.1 + 1))), (stP (nwX Y (lkc a)) 11 s.2.2.1 (Y.2.2.2.1 + 75)), ?_, fun _ => dR_107 h ha hb hw f0 f1 f3 ho, fun w => absurd w (by decide), fun k q1 q2 q3 => by unfold lkI nwI; rw [mjU_r (by omega), mjU_r (by omega), mjU_r (by omega), mjU_r (by omega), mjU_r (by omega), mjR_ne (by omega)]⟩
    refine mjEv.of ?_
    show mjGo (d + 6) nyX10_takes 0 ([some (.ref 7), some (.int 107), some (.ref 22)], [], mjH J Y) _
    refine mjGo.run 10 (pc' := 70) (F' := ([some (.ref 7), some (.int 107), some (.ref 22)], [.int (J 22 0), .ref 7], mjH J Y)) (fun _ => rfl) ?_
    refine mjGo.run 0 (pc' := 70) (F' := ([some (.ref 7), some (.int 107), some (.ref 22)], [.int (J 22 0), .ref 7], mjH J Y)) (fun _ => rfl) ?_
    rw [show (J 22 0) = (nI a) from t0]
    refine mjGo.run 3 (pc' := 73) (F' := ([some (.ref 7), some (.int 107), some (.ref 22)], [.int (J 22 1), .int (nI a), .ref 7], mjH J Y)) (fun _ => rfl) ?_
    refine mjGo.run 0 (pc' := 73) (F' := ([some (.ref 7), some (.int 107), some (.ref 22)], [.int (J 22 1), .int (nI a), .ref 7], mjH J Y)) (fun _ => rfl) ?_
    rw [show (J 22 1) = (nI b) from t1]
    refine mjGo.run 7 (pc' := 80) (F' := ([some (.ref 7), some (.int 107), some (.ref 22)], [.int ((J 22 2) * (J 22 3)), .int (nI b), .int (nI a), .ref 7], mjH J Y)) (fun _ => rfl) ?_
    refine mjGo.run 0 (pc' := 80) (F' := ([some (.ref 7), some (.int 107), some (.ref 22)], [.int ((J 22 2) * (J 22 3)), .int (nI b), .int (nI a), .ref 7], mjH J Y)) (fun _ => rfl) ?_
    rw [show ((J 22 2) * (J 22 3)) = (fld g p 2) from t2]
    refine mjGo.run 3 (pc' := 83) (F' := ([some (.ref 7), some (.int 107), some (.ref 22)], [.int (J 22 4), .int (fld g p 2), .int (nI b), .int (nI a), .ref 7], mjH J Y)) (fun _ => rfl) ?_
    refine mjGo.run 0 (pc' := 83) (F' := ([some (.ref 7), some (.int 107), some (.ref 22)], [.int (J 22 4), .int (fld g p 2), .int (nI b), .int (nI a), .ref 7], mjH J Y)) (fun _ => rfl) ?_
    rw [show (J 22 4) = (nI w9) from t4]
    refine mjGo.call (n := 5) (j := 72) (nx := 86) (o := some (.int 1)) (h' := mjH (mjU (lkI (nwI J Y) (Y.2.2.2.1 + 75) (nI s.2.2.1) (nI b) (fld g p 2) (nI w9)) 7 6 (nI (s.2.2.1 + 1))) (stP (nwX Y (lkc a)) 11 s.2.2.1 (Y.2.2.2.1 + 75))) (fun _ => rfl) (c_tkKY d c2 hVB.2.2.1 ha hb hw hN ho.1 (f0 ▸ ho.2.1) ho.2.2.1 (f3 ▸ ho.2.2.2)) ?_
    show mjGo _ _ 86 ([some (.ref 7), some (.int 107), some (.ref 22)], [.int 1], mjH (mjU (lkI (nwI J Y) (Y.2.2.2.1 + 75) (nI s.2.2.1) (nI b) (fld g p 2) (nI w9)) 7 6 (nI (s.2.2.1 + 1))) (stP (nwX Y (lkc a)) 11 s.2.2.1 (Y.2.2.2.1 + 75))) _
    exact mjGo.ret 1 (fun _ => rfl) rfl
  · refine ⟨J, Y, ?_, fun w => absurd w (by decide), fun _ => ⟨rfl, rfl⟩, fun _ _ _ _ => rfl⟩
    refine mjEv.of ?_
    show mjGo (d + 6) nyX10_takes 0 ([some (.ref 7), some (.int 107), some (.ref 22)], [], mjH J Y) _
    refine mjGo.run 10 (pc' := 70) (F' := ([some (.ref 7), some (.int 107), some (.ref 22)], [.int (J 22 0), .ref 7], mjH J Y)) (fun _ => rfl) ?_
    refine mjGo.run 0 (pc' := 70) (F' := ([some (.ref 7), some (.int 107), some (.ref 22)], [.int (J 22 0), .ref 7], mjH J Y)) (fun _ => rfl) ?_
    rw [show (J 22 0) = (nI a) from t0]
    refine mjGo.run 3 (pc' := 73) (F' := ([some (.ref 7), some (.int 107), some (.ref 22)], [.int (J 22 1), .int (nI a), .ref 7], mjH J Y)) (fun _ => rfl) ?_
    refine mjGo.run 0 (pc' := 73) (F' := ([some (.ref 7), some (.int 107), some (.ref 22)], [.int (J 22 1), .int (nI a), .ref 7], mjH J Y)) (fun _ => rfl) ?_
    rw [show (J 22 1) = (nI b) from t1]
    refine mjGo.run 7 (pc' := 80) (F' := ([some (.ref 7), some (.int 107), some (.ref 22)], [.int ((J 22 2) * (J 22 3)), .int (nI b), .int (nI a), .ref 7], mjH J Y)) (fun _ => rfl) ?_
    refine mjGo.run 0 (pc' := 80) (F' := ([some (.ref 7), some (.int 107), some (.ref 22)], [.int ((J 22 2) * (J 22 3)), .int (nI b), .int (nI a), .ref 7], mjH J Y)) (fun _ => rfl) ?_
    rw [show ((J 22 2) * (J 22 3)) = (fld g p 2) from t2]
    refine mjGo.run 3 (pc' := 83) (F' := ([some (.ref 7), some (.int 107), some (.ref 22)], [.int (J 22 4), .int (fld g p 2), .int (nI b), .int (nI a), .ref 7], mjH J Y)) (fun _ => rfl) ?_
    refine mjGo.run 0 (pc' := 83) (F' := ([some (.ref 7), some (.int 107), some (.ref 22)], [.int (J 22 4), .int (fld g p 2), .int (nI b), .int (nI a), .ref 7], mjH J Y)) (fun _ => rfl) ?_
    rw [show (J 22 4) = (nI w9) from t4]
    refine mjGo.call (n := 5) (j := 72) (nx := 86) (o := some (.int 0)) (h' := mjH J Y) (fun _ => rfl) (c_tkKN d c2 hVB.2.2.1 ha hb hw (fun w => ho ⟨w.1, by rw [f0]; exact w.2.1, w.2.2.1, by rw [f3]; exact w.2.2.2⟩)) ?_
    show mjGo _ _ 86 ([some (.ref 7), some (.int 107), some (.ref 22)], [.int 0], mjH J Y) _
    exact mjGo.ret 1 (fun _ => rfl) rfl
