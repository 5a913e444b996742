/-! town: the class, second way -/
def cnN (g : Nat → Int32) (sz k p N : Nat) : Nat := if p < sz then (syn g sz k p N).2 else N
theorem x_tw {d e sz n0 : Nat} {g : Nat → Int32} {I0 : Nat → Nat → Int32} {X0 : MX} {r : MO × MH → Prop} {o4 : Option Value} (he : e < 8) (hz0 : I0 (27 + 2 * e) 2 = nI sz) (hs : sz ≤ 100) (hg0 : gOf I0 e g) (g0 : ∀ q, sz ≤ q → g q = 0) (hN0 : X0.2.2.2.1 ≤ 800000) : ∀ (k p N : Nat) (s : TS) (J : Nat → Nat → Int32) (Y : MX) (o7 : Option Value), sz + 1 ≤ p + k → p ≤ sz → 2 * N ≤ p → wfT g sz k p → VB s → dR I0 X0 n0 s J Y →
    (∀ q s9 J Y, tw g sz k p s = .inl q → VB s9 → dR I0 X0 n0 s9 J Y → r (.inl (some (.int (-2000 - nI q))), mjH J Y)) →
    (∀ s2 J Y p2 o7, tw g sz k p s = .inr s2 → VB s2 → dR I0 X0 n0 s2 J Y → ∀ N2, N2 = cnN g sz k p N → mjGo (d + 7) nyX11_town 123 ([some (.ref 0), some (.int (nI e)), some (.int 0), some (.ref (27 + 2 * e)), o4, some (.int (nI p2)), some (.int (nI N2)), o7], [], mjH J Y) r) →
    mjGo (d + 7) nyX11_town 56 ([some (.ref 0), some (.int (nI e)), some (.int 0), some (.ref (27 + 2 * e)), o4, some (.int (nI p)), some (.int (nI N)), o7], [], mjH J Y) r := by
  intro k
  induction k with
  | zero => intro p N s J Y o7 h1 h2; omega
  | succ k ih =>
    intro p N s J Y o7 h1 h2 h3 hwf hVB hD g1 g2
    have hfr := hD.2.2.2.2.2.2.1
    have hnn := hD.2.2.2.2.2.2.2.2.1
    have hJz : J (27 + 2 * e) 2 = nI sz := (hfr _ _ (by omega) (by omega) (by omega)).trans hz0
    have hg : gOf J e g := hg0.cg (funext fun j => hfr _ _ (by omega) (by omega) (by omega)) (funext fun j => hfr _ _ (by omega) (by omega) (by omega))
    by_cases hlt : p < sz
    · obtain ⟨hw, hwf⟩ := hwf hlt
      have ⟨hin, hadv⟩ := stE_in g0 h2
      have hadv := hadv hw
      obtain ⟨o9, h9, hev, J2, rfl, hJ2, rfl, hT⟩ := c_xRd (d + 2) (X := Y) he hg (show p < 900 by omega)
      have hT := hT hw
      have hD2 := hD.told hJ2
      have hg2 : gOf J2 e g := hg.cg (hJ2 _ (by omega)) (hJ2 _ (by omega))
      have hNY : Y.2.2.2.1 + 75 < 900000 := by have := hVB.2.2.1; omega
      have htw : tw g sz (k + 1) p s = if okB s (g p) (fld g p) = true then tw g sz k (stE g p).1 (stp s (g p) (fld g p)) else .inl p := by rw [tw, if_pos hlt]
      have hcn : cnN g sz (k + 1) p N = cnN g sz k (stE g p).1 (N + 1) := by
        unfold cnN
        rw [if_pos hlt, syn, hw, if_pos rfl]
        by_cases w : (stE g p).1 < sz
        · rw [if_pos w, if_pos w]
        · rw [if_neg w, if_neg w]
      unfold rdA at hev
      rw [hw, if_pos rfl] at hev
      rcases stE_lt hw with hl | hl | hl | hl
      · obtain ⟨J3, Y3, hev2, hok, hno, hkp⟩ := c_tk119 d hD2 hVB hNY hl hT
        rw [hl] at htw
        cases hb : okB s 119 (fld g p)
        · refine mjGo.run 2 (pc' := 60) (F' := ([some (.ref 0), some (.int (nI e)), some (.int 0), some (.ref (27 + 2 * e)), o4, some (.int (nI p)), some (.int (nI N)), o7], [.int 100, .int (nI N)], mjH J Y)) (fun _ => rfl) ?_
          refine mjGo.run 1 (pc' := (bif decide (100 ≤ (nI N)) then 123 else 63)) (F' := ([some (.ref 0), some (.int (nI e)), some (.int 0), some (.ref (27 + 2 * e)), o4, some (.int (nI p)), some (.int (nI N)), o7], [], mjH J Y)) (fun _ => rfl) ?_
          refine mjGo.brF (show ¬ 100 ≤ (nI N) by rw [show (100 : Int32) = nI 100 from rfl, nI_leI (by omega) (by omega)]; omega) ?_
          show mjGo _ _ 63 _ _
          refine mjGo.run 2 (pc' := 66) (F' := ([some (.ref 0), some (.int (nI e)), some (.int 0), some (.ref (27 + 2 * e)), o4, some (.int (nI p)), some (.int (nI N)), o7], [.ref (27 + 2 * e), .int (nI p)], mjH J Y)) (fun _ => rfl) ?_
          refine mjGo.op (pc' := 69) (F' := ([some (.ref 0), some (.int (nI e)), some (.int 0), some (.ref (27 + 2 * e)), o4, some (.int (nI p)), some (.int (nI N)), o7], [.int (J (27 + 2 * e) 2), .int (nI p)], mjH J Y)) (o := mjgetI [6] 2 69) rfl (fun _ => row_getI he) ?_
          refine mjGo.run 1 (pc' := (bif decide ((J (27 + 2 * e) 2) ≤ (nI p)) then 123 else 72)) (F' := ([some (.ref 0), some (.int (nI e)), some (.int 0), some (.ref (27 + 2 * e)), o4, some (.int (nI p)), some (.int (nI N)), o7], [], mjH J Y)) (fun _ => rfl) ?_
          refine mjGo.brF (show ¬ (J (27 + 2 * e) 2) ≤ (nI p) by rw [hJz, nI_leI (by omega) (by omega)]; omega) ?_
          show mjGo _ _ 72 _ _
          refine mjGo.run 3 (pc' := 76) (F' := ([some (.ref 0), some (.int (nI e)), some (.int 0), some (.ref (27 + 2 * e)), o4, some (.int (nI p)), some (.int (nI N)), o7], [.int (nI p), .ref (27 + 2 * e), .ref 0], mjH J Y)) (fun _ => rfl) ?_
          refine mjGo.call (n := 3) (j := 85) (nx := 79) (o := some (.int (nI (stE g p).1))) (h' := mjH J2 Y) (fun _ => rfl) (hev) ?_
          show mjGo _ _ 79 ([some (.ref 0), some (.int (nI e)), some (.int 0), some (.ref (27 + 2 * e)), o4, some (.int (nI p)), some (.int (nI N)), o7], [.int (nI (stE g p).1)], mjH J2 Y) _
          refine mjGo.run 2 (pc' := 83) (F' := ([some (.ref 0), some (.int (nI e)), some (.int 0), some (.ref (27 + 2 * e)), o4, some (.int (nI p)), some (.int (nI N)), some (.int (nI (stE g p).1))], [.int (nI (stE g p).1)], mjH J2 Y)) (fun _ => rfl) ?_
          refine mjGo.run 1 (pc' := (bif decide ((nI (stE g p).1) < 0) then 106 else 86)) (F' := ([some (.ref 0), some (.int (nI e)), some (.int 0), some (.ref (27 + 2 * e)), o4, some (.int (nI p)), some (.int (nI N)), some (.int (nI (stE g p).1))], [], mjH J2 Y)) (fun _ => rfl) ?_
          refine mjGo.brF (nI_pos (by omega)) ?_
          show mjGo _ _ 86 _ _
          refine mjGo.run 4 (pc' := 93) (F' := ([some (.ref 0), some (.int (nI e)), some (.int 0), some (.ref (27 + 2 * e)), o4, some (.int (nI p)), some (.int (nI N)), some (.int (nI (stE g p).1))], [.int (nI p), .ref (27 + 2 * e), .ref 7], mjH J2 Y)) (fun _ => rfl) ?_
          refine mjGo.callL (o := some (.int 119)) (h' := mjH J2 Y) (nx := 96) rfl rfl rfl ((row_N he).1) ⟨_, row_lk he, (by have q9 := c_xVal (d + 5) (I := J2) (X := Y) e (nI p) he; rw [hg2 p (by omega), hl] at q9; exact q9)⟩ ?_
          show mjGo _ _ 96 ([some (.ref 0), some (.int (nI e)), some (.int 0), some (.ref (27 + 2 * e)), o4, some (.int (nI p)), some (.int (nI N)), some (.int (nI (stE g p).1))], [.int 119, .ref 7], mjH J2 Y) _
          refine mjGo.run 2 (pc' := 100) (F' := ([some (.ref 0), some (.int (nI e)), some (.int 0), some (.ref (27 + 2 * e)), o4, some (.int (nI p)), some (.int (nI N)), some (.int (nI (stE g p).1))], [.ref 22, .int 119, .ref 7], mjH J2 Y)) (fun _ => rfl) ?_
          refine mjGo.call (n := 3) (j := 75) (nx := 103) (o := some (.int 0)) (h' := mjH J3 Y3) (fun _ => rfl) ((by rw [hb] at hev2; exact hev2)) ?_
          show mjGo _ _ 103 ([some (.ref 0), some (.int (nI e)), some (.int 0), some (.ref (27 + 2 * e)), o4, some (.int (nI p)), some (.int (nI N)), some (.int (nI (stE g p).1))], [.int 0], mjH J3 Y3) _
          rw [hb, if_neg (by decide)] at htw
          obtain ⟨z1, z2⟩ := hno hb
          subst z1
          subst z2
          refine mjGo.ret 5 (fun _ => rfl) (g1 p s J3 Y3 htw hVB hD2)
        · refine mjGo.run 2 (pc' := 60) (F' := ([some (.ref 0), some (.int (nI e)), some (.int 0), some (.ref (27 + 2 * e)), o4, some (.int (nI p)), some (.int (nI N)), o7], [.int 100, .int (nI N)], mjH J Y)) (fun _ => rfl) ?_
          refine mjGo.run 1 (pc' := (bif decide (100 ≤ (nI N)) then 123 else 63)) (F' := ([some (.ref 0), some (.int (nI e)), some (.int 0), some (.ref (27 + 2 * e)), o4, some (.int (nI p)), some (.int (nI N)), o7], [], mjH J Y)) (fun _ => rfl) ?_
          refine mjGo.brF (show ¬ 100 ≤ (nI N) by rw [show (100 : Int32) = nI 100 from rfl, nI_leI (by omega) (by omega)]; omega) ?_
          show mjGo _ _ 63 _ _
          refine mjGo.run 2 (pc' := 66) (F' := ([some (.ref 0), some (.int (nI e)), some (.int 0), some (.ref (27 + 2 * e)), o4, some (.int (nI p)), some (.int (nI N)), o7], [.ref (27 + 2 * e), .int (nI p)], mjH J Y)) (fun _ => rfl) ?_
          refine mjGo.op (pc' := 69) (F' := ([some (.ref 0), some (.int (nI e)), some (.int 0), some (.ref (27 + 2 * e)), o4, some (.int (nI p)), some (.int (nI N)), o7], [.int (J (27 + 2 * e) 2), .int (nI p)], mjH J Y)) (o := mjgetI [6] 2 69) rfl (fun _ => row_getI he) ?_
          refine mjGo.run 1 (pc' := (bif decide ((J (27 + 2 * e) 2) ≤ (nI p)) then 123 else 72)) (F' := ([some (.ref 0), some (.int (nI e)), some (.int 0), some (.ref (27 + 2 * e)), o4, some (.int (nI p)), some (.int (nI N)), o7], [], mjH J Y)) (fun _ => rfl) ?_
          refine mjGo.brF (show ¬ (J (27 + 2 * e) 2) ≤ (nI p) by rw [hJz, nI_leI (by omega) (by omega)]; omega) ?_
          show mjGo _ _ 72 _ _
          refine mjGo.run 3 (pc' := 76) (F' := ([some (.ref 0), some (.int (nI e)), some (.int 0), some (.ref (27 + 2 * e)), o4, some (.int (nI p)), some (.int (nI N)), o7], [.int (nI p), .ref (27 + 2 * e), .ref 0], mjH J Y)) (fun _ => rfl) ?_
          refine mjGo.call (n := 3) (j := 85) (nx := 79) (o := some (.int (nI (stE g p).1))) (h' := mjH J2 Y) (fun _ => rfl) (hev) ?_
          show mjGo _ _ 79 ([some (.ref 0), some (.int (nI e)), some (.int 0), some (.ref (27 + 2 * e)), o4, some (.int (nI p)), some (.int (nI N)), o7], [.int (nI (stE g p).1)], mjH J2 Y) _
          refine mjGo.run 2 (pc' := 83) (F' := ([some (.ref 0), some (.int (nI e)), some (.int 0), some (.ref (27 + 2 * e)), o4, some (.int (nI p)), some (.int (nI N)), some (.int (nI (stE g p).1))], [.int (nI (stE g p).1)], mjH J2 Y)) (fun _ => rfl) ?_
          refine mjGo.run 1 (pc' := (bif decide ((nI (stE g p).1) < 0) then 106 else 86)) (F' := ([some (.ref 0), some (.int (nI e)), some (.int 0), some (.ref (27 + 2 * e)), o4, some (.int (nI p)), some (.int (nI N)), some (.int (nI (stE g p).1))], [], mjH J2 Y)) (fun _ => rfl) ?_
          refine mjGo.brF (nI_pos (by omega)) ?_
          show mjGo _ _ 86 _ _
          refine mjGo.run 4 (pc' := 93) (F' := ([some (.ref 0), some (.int (nI e)), some (.int 0), some (.ref (27 + 2 * e)), o4, some (.int (nI p)), some (.int (nI N)), some (.int (nI (stE g p).1))], [.int (nI p), .ref (27 + 2 * e), .ref 7], mjH J2 Y)) (fun _ => rfl) ?_
          refine mjGo.callL (o := some (.int 119)) (h' := mjH J2 Y) (nx := 96) rfl rfl rfl ((row_N he).1) ⟨_, row_lk he, (by have q9 := c_xVal (d + 5) (I := J2) (X := Y) e (nI p) he; rw [hg2 p (by omega), hl] at q9; exact q9)⟩ ?_
          show mjGo _ _ 96 ([some (.ref 0), some (.int (nI e)), some (.int 0), some (.ref (27 + 2 * e)), o4, some (.int (nI p)), some (.int (nI N)), some (.int (nI (stE g p).1))], [.int 119, .ref 7], mjH J2 Y) _
          refine mjGo.run 2 (pc' := 100) (F' := ([some (.ref 0), some (.int (nI e)), some (.int 0), some (.ref (27 + 2 * e)), o4, some (.int (nI p)), some (.int (nI N)), some (.int (nI (stE g p).1))], [.ref 22, .int 119, .ref 7], mjH J2 Y)) (fun _ => rfl) ?_
          refine mjGo.call (n := 3) (j := 75) (nx := 103) (o := some (.int 1)) (h' := mjH J3 Y3) (fun _ => rfl) ((by rw [hb] at hev2; exact hev2)) ?_
          show mjGo _ _ 103 ([some (.ref 0), some (.int (nI e)), some (.int 0), some (.ref (27 + 2 * e)), o4, some (.int (nI p)), some (.int (nI N)), some (.int (nI (stE g p).1))], [.int 1], mjH J3 Y3) _
          refine mjGo.run 5 (pc' := 56) (F' := ([some (.ref 0), some (.int (nI e)), some (.int 0), some (.ref (27 + 2 * e)), o4, some (.int (nI (stE g p).1)), some (.int ((nI N) + 1)), some (.int (nI (stE g p).1))], [], mjH J3 Y3)) (fun _ => rfl) ?_
          rw [hb, if_pos rfl] at htw
          have k9 := ih (stE g p).1 (N + 1) (stp s 119 (fld g p)) J3 Y3 (some (.int (nI (stE g p).1))) (by omega) hin (by omega) hwf (stp_VB hVB (by decide) hb) (hok hb) (fun q s9 J9 Y9 q1 => g1 q s9 J9 Y9 (htw.trans q1)) (fun s2 J9 Y9 p2 o7 q1 q2 q3 N2 q4 => g2 s2 J9 Y9 p2 o7 (htw.trans q1) q2 q3 N2 (by rw [hcn]; exact q4))
          rw [← nI_1] at k9
          exact k9
      · obtain ⟨J3, Y3, hev2, hok, hno, hkp⟩ := c_tk107 d hD2 hVB hNY hl hT
        rw [hl] at htw
        cases hb : okB s 107 (fld g p)
        · refine mjGo.run 2 (pc' := 60) (F' := ([some (.ref 0), some (.int (nI e)), some (.int 0), some (.ref (27 + 2 * e)), o4, some (.int (nI p)), some (.int (nI N)), o7], [.int 100, .int (nI N)], mjH J Y)) (fun _ => rfl) ?_
          refine mjGo.run 1 (pc' := (bif decide (100 ≤ (nI N)) then 123 else 63)) (F' := ([some (.ref 0), some (.int (nI e)), some (.int 0), some (.ref (27 + 2 * e)), o4, some (.int (nI p)), some (.int (nI N)), o7], [], mjH J Y)) (fun _ => rfl) ?_
          refine mjGo.brF (show ¬ 100 ≤ (nI N) by rw [show (100 : Int32) = nI 100 from rfl, nI_leI (by omega) (by omega)]; omega) ?_
          show mjGo _ _ 63 _ _
          refine mjGo.run 2 (pc' := 66) (F' := ([some (.ref 0), some (.int (nI e)), some (.int 0), some (.ref (27 + 2 * e)), o4, some (.int (nI p)), some (.int (nI N)), o7], [.ref (27 + 2 * e), .int (nI p)], mjH J Y)) (fun _ => rfl) ?_
          refine mjGo.op (pc' := 69) (F' := ([some (.ref 0), some (.int (nI e)), some (.int 0), some (.ref (27 + 2 * e)), o4, some (.int (nI p)), some (.int (nI N)), o7], [.int (J (27 + 2 * e) 2), .int (nI p)], mjH J Y)) (o := mjgetI [6] 2 69) rfl (fun _ => row_getI he) ?_
          refine mjGo.run 1 (pc' := (bif decide ((J (27 + 2 * e) 2) ≤ (nI p)) then 123 else 72)) (F' := ([some (.ref 0), some (.int (nI e)), some (.int 0), some (.ref (27 + 2 * e)), o4, some (.int (nI p)), some (.int (nI N)), o7], [], mjH J Y)) (fun _ => rfl) ?_
          refine mjGo.brF (show ¬ (J (27 + 2 * e) 2) ≤ (nI p) by rw [hJz, nI_leI (by omega) (by omega)]; omega) ?_
          show mjGo _ _ 72 _ _
          refine mjGo.run 3 (pc' := 76) (F' := ([some (.ref 0), some (.int (nI e)), some (.int 0), some (.ref (27 + 2 * e)), o4, some (.int (nI p)), some (.int (nI N)), o7], [.int (nI p), .ref (27 + 2 * e), .ref 0], mjH J Y)) (fun _ => rfl) ?_
          refine mjGo.call (n := 3) (j := 85) (nx := 79) (o := some (.int (nI (stE g p).1))) (h' := mjH J2 Y) (fun _ => rfl) (hev) ?_
          show mjGo _ _ 79 ([some (.ref 0), some (.int (nI e)), some (.int 0), some (.ref (27 + 2 * e)), o4, some (.int (nI p)), some (.int (nI N)), o7], [.int (nI (stE g p).1)], mjH J2 Y) _
          refine mjGo.run 2 (pc' := 83) (F' := ([some (.ref 0), some (.int (nI e)), some (.int 0), some (.ref (27 + 2 * e)), o4, some (.int (nI p)), some (.int (nI N)), some (.int (nI (stE g p).1))], [.int (nI (stE g p).1)], mjH J2 Y)) (fun _ => rfl) ?_
          refine mjGo.run 1 (pc' := (bif decide ((nI (stE g p).1) < 0) then 106 else 86)) (F' := ([some (.ref 0), some (.int (nI e)), some (.int 0), some (.ref (27 + 2 * e)), o4, some (.int (nI p)), some (.int (nI N)), some (.int (nI (stE g p).1))], [], mjH J2 Y)) (fun _ => rfl) ?_
          refine mjGo.brF (nI_pos (by omega)) ?_
          show mjGo _ _ 86 _ _
          refine mjGo.run 4 (pc' := 93) (F' := ([some (.ref 0), some (.int (nI e)), some (.int 0), some (.ref (27 + 2 * e)), o4, some (.int (nI p)), some (.int (nI N)), some (.int (nI (stE g p).1))], [.int (nI p), .ref (27 + 2 * e), .ref 7], mjH J2 Y)) (fun _ => rfl) ?_
          refine mjGo.callL (o := some (.int 107)) (h' := mjH J2 Y) (nx := 96) rfl rfl rfl ((row_N he).1) ⟨_, row_lk he, (by have q9 := c_xVal (d + 5) (I := J2) (X := Y) e (nI p) he; rw [hg2 p (by omega), hl] at q9; exact q9)⟩ ?_
          show mjGo _ _ 96 ([some (.ref 0), some (.int (nI e)), some (.int 0), some (.ref (27 + 2 * e)), o4, some (.int (nI p)), some (.int (nI N)), some (.int (nI (stE g p).1))], [.int 107, .ref 7], mjH J2 Y) _
          refine mjGo.run 2 (pc' := 100) (F' := ([some (.ref 0), some (.int (nI e)), some (.int 0), some (.ref (27 + 2 * e)), o4, some (.int (nI p)), some (.int (nI N)), some (.int (nI (stE g p).1))], [.ref 22, .int 107, .ref 7], mjH J2 Y)) (fun _ => rfl) ?_
          refine mjGo.call (n := 3) (j := 75) (nx := 103) (o := some (.int 0)) (h' := mjH J3 Y3) (fun _ => rfl) ((by rw [hb] at hev2; exact hev2)) ?_
          show mjGo _ _ 103 ([some (.ref 0), some (.int (nI e)), some (.int 0), some (.ref (27 + 2 * e)), o4, some (.int (nI p)), some (.int (nI N)), some (.int (nI (stE g p).1))], [.int 0], mjH J3 Y3) _
          rw [hb, if_neg (by decide)] at htw
          obtain ⟨z1, z2⟩ := hno hb
          subst z1
          subst z2
          refine mjGo.ret 5 (fun _ => rfl) (g1 p s J3 Y3 htw hVB hD2)
        · refine mjGo.run 2 (pc' := 60) (F' := ([some (.ref 0), some (.int (nI e)), some (.int 0), some (.ref (27 + 2 * e)), o4, some (.int (nI p)), some (.int (nI N)), o7], [.int 100, .int (nI N)], mjH J Y)) (fun _ => rfl) ?_
          refine mjGo.run 1 (pc' := (bif decide (100 ≤ (nI N)) then 123 else 63)) (F' := ([some (.ref 0), some (.int (nI e)), some (.int 0), some (.ref (27 + 2 * e)), o4, some (.int (nI p)), some (.int (nI N)), o7], [], mjH J Y)) (fun _ => rfl) ?_
          refine mjGo.brF (show ¬ 100 ≤ (nI N) by rw [show (100 : Int32) = nI 100 from rfl, nI_leI (by omega) (by omega)]; omega) ?_
          show mjGo _ _ 63 _ _
          refine mjGo.run 2 (pc' := 66) (F' := ([some (.ref 0), some (.int (nI e)), some (.int 0), some (.ref (27 + 2 * e)), o4, some (.int (nI p)), some (.int (nI N)), o7], [.ref (27 + 2 * e), .int (nI p)], mjH J Y)) (fun _ => rfl) ?_
          refine mjGo.op (pc' := 69) (F' := ([some (.ref 0), some (.int (nI e)), some (.int 0), some (.ref (27 + 2 * e)), o4, some (.int (nI p)), some (.int (nI N)), o7], [.int (J (27 + 2 * e) 2), .int (nI p)], mjH J Y)) (o := mjgetI [6] 2 69) rfl (fun _ => row_getI he) ?_
          refine mjGo.run 1 (pc' := (bif decide ((J (27 + 2 * e) 2) ≤ (nI p)) then 123 else 72)) (F' := ([some (.ref 0), some (.int (nI e)), some (.int 0), some (.ref (27 + 2 * e)), o4, some (.int (nI p)), some (.int (nI N)), o7], [], mjH J Y)) (fun _ => rfl) ?_
          refine mjGo.brF (show ¬ (J (27 + 2 * e) 2) ≤ (nI p) by rw [hJz, nI_leI (by omega) (by omega)]; omega) ?_
          show mjGo _ _ 72 _ _
          refine mjGo.run 3 (pc' := 76) (F' := ([some (.ref 0), some (.int (nI e)), some (.int 0), some (.ref (27 + 2 * e)), o4, some (.int (nI p)), some (.int (nI N)), o7], [.int (nI p), .ref (27 + 2 * e), .ref 0], mjH J Y)) (fun _ => rfl) ?_
          refine mjGo.call (n := 3) (j := 85) (nx := 79) (o := some (.int (nI (stE g p).1))) (h' := mjH J2 Y) (fun _ => rfl) (hev) ?_
          show mjGo _ _ 79 ([some (.ref 0), some (.int (nI e)), some (.int 0), some (.ref (27 + 2 * e)), o4, some (.int (nI p)), some (.int (nI N)), o7], [.int (nI (stE g p).1)], mjH J2 Y) _
          refine mjGo.run 2 (pc' := 83) (F' := ([some (.ref 0), some (.int (nI e)), some (.int 0), some (.ref (27 + 2 * e)), o4, some (.int (nI p)), some (.int (nI N)), some (.int (nI (stE g p).1))], [.int (nI (stE g p).1)], mjH J2 Y)) (fun _ => rfl) ?_
          refine mjGo.run 1 (pc' := (bif decide ((nI (stE g p).1) < 0) then 106 else 86)) (F' := ([some (.ref 0), some (.int (nI e)), some (.int 0), some (.ref (27 + 2 * e)), o4, some (.int (nI p)), some (.int (nI N)), some (.int (nI (stE g p).1))], [], mjH J2 Y)) (fun _ => rfl) ?_
          refine mjGo.brF (nI_pos (by omega)) ?_
          show mjGo _ _ 86 _ _
          refine mjGo.run 4 (pc' := 93) (F' := ([some (.ref 0), some (.int (nI e)), some (.int 0), some (.ref (27 + 2 * e)), o4, some (.int (nI p)), some (.int (nI N)), some (.int (nI (stE g p).1))], [.int (nI p), .ref (27 + 2 * e), .ref 7], mjH J2 Y)) (fun _ => rfl) ?_
          refine mjGo.callL (o := some (.int 107)) (h' := mjH J2 Y) (nx := 96) rfl rfl rfl ((row_N he).1) ⟨_, row_lk he, (by have q9 := c_xVal (d + 5) (I := J2) (X := Y) e (nI p) he; rw [hg2 p (by omega), hl] at q9; exact q9)⟩ ?_
          show mjGo _ _ 96 ([some (.ref 0), some (.int (nI e)), some (.int 0), some (.ref (27 + 2 * e)), o4, some (.int (nI p)), some (.int (nI N)), some (.int (nI (stE g p).1))], [.int 107, .ref 7], mjH J2 Y) _
          refine mjGo.run 2 (pc' := 100) (F' := ([some (.ref 0), some (.int (nI e)), some (.int 0), some (.ref (27 + 2 * e)), o4, some (.int (nI p)), some (.int (nI N)), some (.int (nI (stE g p).1))], [.ref 22, .int 107, .ref 7], mjH J2 Y)) (fun _ => rfl) ?_
          refine mjGo.call (n := 3) (j := 75) (nx := 103) (o := some (.int 1)) (h' := mjH J3 Y3) (fun _ => rfl) ((by rw [hb] at hev2; exact hev2)) ?_
          show mjGo _ _ 103 ([some (.ref 0), some (.int (nI e)), some (.int 0), some (.ref (27 + 2 * e)), o4, some (.int (nI p)), some (.int (nI N)), some (.int (nI (stE g p).1))], [.int 1], mjH J3 Y3) _
          refine mjGo.run 5 (pc' := 56) (F' := ([some (.ref 0), some (.int (nI e)), some (.int 0), some (.ref (27 + 2 * e)), o4, some (.int (nI (stE g p).1)), some (.int ((nI N) + 1)), some (.int (nI (stE g p).1))], [], mjH J3 Y3)) (fun _ => rfl) ?_
          rw [hb, if_pos rfl] at htw
          have k9 := ih (stE g p).1 (N + 1) (stp s 107 (fld g p)) J3 Y3 (some (.int (nI (stE g p).1))) (by omega) hin (by omega) hwf (stp_VB hVB (by decide) hb) (hok hb) (fun q s9 J9 Y9 q1 => g1 q s9 J9 Y9 (htw.trans q1)) (fun s2 J9 Y9 p2 o7 q1 q2 q3 N2 q4 => g2 s2 J9 Y9 p2 o7 (htw.trans q1) q2 q3 N2 (by rw [hcn]; exact q4))
          rw [← nI_1] at k9
          exact k9
      · obtain ⟨J3, Y3, hev2, hok, hno, hkp⟩ := c_tk108 d hD2 hVB hNY hl hT
        rw [hl] at htw
        cases hb : okB s 108 (fld g p)
        · refine mjGo.run 2 (pc' := 60) (F' := ([some (.ref 0), some (.int (nI e)), some (.int 0), some (.ref (27 + 2 * e)), o4, some (.int (nI p)), some (.int (nI N)), o7], [.int 100, .int (nI N)], mjH J Y)) (fun _ => rfl) ?_
          refine mjGo.run 1 (pc' := (bif decide (100 ≤ (nI N)) then 123 else 63)) (F' := ([some (.ref 0), some (.int (nI e)), some (.int 0), some (.ref (27 + 2 * e)), o4, some (.int (nI p)), some (.int (nI N)), o7], [], mjH J Y)) (fun _ => rfl) ?_
          refine mjGo.brF (show ¬ 100 ≤ (nI N) by rw [show (100 : Int32) = nI 100 from rfl, nI_leI (by omega) (by omega)]; omega) ?_
          show mjGo _ _ 63 _ _
          refine mjGo.run 2 (pc' := 66) (F' := ([some (.ref 0), some (.int (nI e)), some (.int 0), some (.ref (27 + 2 * e)), o4, some (.int (nI p)), some (.int (nI N)), o7], [.ref (27 + 2 * e), .int (nI p)], mjH J Y)) (fun _ => rfl) ?_
          refine mjGo.op (pc' := 69) (F' := ([some (.ref 0), some (.int (nI e)), some (.int 0), some (.ref (27 + 2 * e)), o4, some (.int (nI p)), some (.int (nI N)), o7], [.int (J (27 + 2 * e) 2), .int (nI p)], mjH J Y)) (o := mjgetI [6] 2 69) rfl (fun _ => row_getI he) ?_
          refine mjGo.run 1 (pc' := (bif decide ((J (27 + 2 * e) 2) ≤ (nI p)) then 123 else 72)) (F' := ([some (.ref 0), some (.int (nI e)), some (.int 0), some (.ref (27 + 2 * e)), o4, some (.int (nI p)), some (.int (nI N)), o7], [], mjH J Y)) (fun _ => rfl) ?_
          refine mjGo.brF (show ¬ (J (27 + 2 * e) 2) ≤ (nI p) by rw [hJz, nI_leI (by omega) (by omega)]; omega) ?_
          show mjGo _ _ 72 _ _
          refine mjGo.run 3 (pc' := 76) (F' := ([some (.ref 0), some (.int (nI e)), some (.int 0), some (.ref (27 + 2 * e)), o4, some (.int (nI p)), some (.int (nI N)), o7], [.int (nI p), .ref (27 + 2 * e), .ref 0], mjH J Y)) (fun _ => rfl) ?_
          refine mjGo.call (n := 3) (j := 85) (nx := 79) (o := some (.int (nI (stE g p).1))) (h' := mjH J2 Y) (fun _ => rfl) (hev) ?_
          show mjGo _ _ 79 ([some (.ref 0), some (.int (nI e)), some (.int 0), some (.ref (27 + 2 * e)), o4, some (.int (nI p)), some (.int (nI N)), o7], [.int (nI (stE g p).1)], mjH J2 Y) _
          refine mjGo.run 2 (pc' := 83) (F' := ([some (.ref 0), some (.int (nI e)), some (.int 0), some (.ref (27 + 2 * e)), o4, some (.int (nI p)), some (.int (nI N)), some (.int (nI (stE g p).1))], [.int (nI (stE g p).1)], mjH J2 Y)) (fun _ => rfl) ?_
          refine mjGo.run 1 (pc' := (bif decide ((nI (stE g p).1) < 0) then 106 else 86)) (F' := ([some (.ref 0), some (.int (nI e)), some (.int 0), some (.ref (27 + 2 * e)), o4, some (.int (nI p)), some (.int (nI N)), some (.int (nI (stE g p).1))], [], mjH J2 Y)) (fun _ => rfl) ?_
          refine mjGo.brF (nI_pos (by omega)) ?_
          show mjGo _ _ 86 _ _
          refine mjGo.run 4 (pc' := 93) (F' := ([some (.ref 0), some (.int (nI e)), some (.int 0), some (.ref (27 + 2 * e)), o4, some (.int (nI p)), some (.int (nI N)), some (.int (nI (stE g p).1))], [.int (nI p), .ref (27 + 2 * e), .ref 7], mjH J2 Y)) (fun _ => rfl) ?_
          refine mjGo.callL (o := some (.int 108)) (h' := mjH J2 Y) (nx := 96) rfl rfl rfl ((row_N he).1) ⟨_, row_lk he, (by have q9 := c_xVal (d + 5) (I := J2) (X := Y) e (nI p) he; rw [hg2 p (by omega), hl] at q9; exact q9)⟩ ?_
          show mjGo _ _ 96 ([some (.ref 0), some (.int (nI e)), some (.int 0), some (.ref (27 + 2 * e)), o4, some (.int (nI p)), some (.int (nI N)), some (.int (nI (stE g p).1))], [.int 108, .ref 7], mjH J2 Y) _
          refine mjGo.run 2 (pc' := 100) (F' := ([some (.ref 0), some (.int (nI e)), some (.int 0), some (.ref (27 + 2 * e)), o4, some (.int (nI p)), some (.int (nI N)), some (.int (nI (stE g p).1))], [.ref 22, .int 108, .ref 7], mjH J2 Y)) (fun _ => rfl) ?_
          refine mjGo.call (n := 3) (j := 75) (nx := 103) (o := some (.int 0)) (h' := mjH J3 Y3) (fun _ => rfl) ((by rw [hb] at hev2; exact hev2)) ?_
          show mjGo _ _ 103 ([some (.ref 0), some (.int (nI e)), some (.int 0), some (.ref (27 + 2 * e)), o4, some (.int (nI p)), some (.int (nI N)), some (.int (nI (stE g p).1))], [.int 0], mjH J3 Y3) _
          rw [hb, if_neg (by decide)] at htw
          obtain ⟨z1, z2⟩ := hno hb
          subst z1
          subst z2
          refine mjGo.ret 5 (fun _ => rfl) (g1 p s J3 Y3 htw hVB hD2)
        · refine mjGo.run 2 (pc' := 60) (F' := ([some (.ref 0), some (.int (nI e)), some (.int 0), some (.ref (27 + 2 * e)), o4, some (.int (nI p)), some (.int (nI N)), o7], [.int 100, .int (nI N)], mjH J Y)) (fun _ => rfl) ?_
          refine mjGo.run 1 (pc' := (bif decide (100 ≤ (nI N)) then 123 else 63)) (F' := ([some (.ref 0), some (.int (nI e)), some (.int 0), some (.ref (27 + 2 * e)), o4, some (.int (nI p)), some (.int (nI N)), o7], [], mjH J Y)) (fun _ => rfl) ?_
          refine mjGo.brF (show ¬ 100 ≤ (nI N) by rw [show (100 : Int32) = nI 100 from rfl, nI_leI (by omega) (by omega)]; omega) ?_
          show mjGo _ _ 63 _ _
          refine mjGo.run 2 (pc' := 66) (F' := ([some (.ref 0), some (.int (nI e)), some (.int 0), some (.ref (27 + 2 * e)), o4, some (.int (nI p)), some (.int (nI N)), o7], [.ref (27 + 2 * e), .int (nI p)], mjH J Y)) (fun _ => rfl) ?_
          refine mjGo.op (pc' := 69) (F' := ([some (.ref 0), some (.int (nI e)), some (.int 0), some (.ref (27 + 2 * e)), o4, some (.int (nI p)), some (.int (nI N)), o7], [.int (J (27 + 2 * e) 2), .int (nI p)], mjH J Y)) (o := mjgetI [6] 2 69) rfl (fun _ => row_getI he) ?_
          refine mjGo.run 1 (pc' := (bif decide ((J (27 + 2 * e) 2) ≤ (nI p)) then 123 else 72)) (F' := ([some (.ref 0), some (.int (nI e)), some (.int 0), some (.ref (27 + 2 * e)), o4, some (.int (nI p)), some (.int (nI N)), o7], [], mjH J Y)) (fun _ => rfl) ?_
          refine mjGo.brF (show ¬ (J (27 + 2 * e) 2) ≤ (nI p) by rw [hJz, nI_leI (by omega) (by omega)]; omega) ?_
          show mjGo _ _ 72 _ _
          refine mjGo.run 3 (pc' := 76) (F' := ([some (.ref 0), some (.int (nI e)), some (.int 0), some (.ref (27 + 2 * e)), o4, some (.int (nI p)), some (.int (nI N)), o7], [.int (nI p), .ref (27 + 2 * e), .ref 0], mjH J Y)) (fun _ => rfl) ?_
          refine mjGo.call (n := 3) (j := 85) (nx := 79) (o := some (.int (nI (stE g p).1))) (h' := mjH J2 Y) (fun _ => rfl) (hev) ?_
          show mjGo _ _ 79 ([some (.ref 0), some (.int (nI e)), some (.int 0), some (.ref (27 + 2 * e)), o4, some (.int (nI p)), some (.int (nI N)), o7], [.int (nI (stE g p).1)], mjH J2 Y) _
          refine mjGo.run 2 (pc' := 83) (F' := ([some (.ref 0), some (.int (nI e)), some (.int 0), some (.ref (27 + 2 * e)), o4, some (.int (nI p)), some (.int (nI N)), some (.int (nI (stE g p).1))], [.int (nI (stE g p).1)], mjH J2 Y)) (fun _ => rfl) ?_
          refine mjGo.run 1 (pc' := (bif decide ((nI (stE g p).1) < 0) then 106 else 86)) (F' := ([some (.ref 0), some (.int (nI e)), some (.int 0), some (.ref (27 + 2 * e)), o4, some (.int (nI p)), some (.int (nI N)), some (.int (nI (stE g p).1))], [], mjH J2 Y)) (fun _ => rfl) ?_
          refine mjGo.brF (nI_pos (by omega)) ?_
          show mjGo _ _ 86 _ _
          refine mjGo.run 4 (pc' := 93) (F' := ([some (.ref 0), some (.int (nI e)), some (.int 0), some (.ref (27 + 2 * e)), o4, some (.int (nI p)), some (.int (nI N)), some (.int (nI (stE g p).1))], [.int (nI p), .ref (27 + 2 * e), .ref 7], mjH J2 Y)) (fun _ => rfl) ?_
          refine mjGo.callL (o := some (.int 108)) (h' := mjH J2 Y) (nx := 96) rfl rfl rfl ((row_N he).1) ⟨_, row_lk he, (by have q9 := c_xVal (d + 5) (I := J2) (X := Y) e (nI p) he; rw [hg2 p (by omega), hl] at q9; exact q9)⟩ ?_
          show mjGo _ _ 96 ([some (.ref 0), some (.int (nI e)), some (.int 0), some (.ref (27 + 2 * e)), o4, some (.int (nI p)), some (.int (nI N)), some (.int (nI (stE g p).1))], [.int 108, .ref 7], mjH J2 Y) _
          refine mjGo.run 2 (pc' := 100) (F' := ([some (.ref 0), some (.int (nI e)), some (.int 0), some (.ref (27 + 2 * e)), o4, some (.int (nI p)), some (.int (nI N)), some (.int (nI (stE g p).1))], [.ref 22, .int 108, .ref 7], mjH J2 Y)) (fun _ => rfl) ?_
          refine mjGo.call (n := 3) (j := 75) (nx := 103) (o := some (.int 1)) (h' := mjH J3 Y3) (fun _ => rfl) ((by rw [hb] at hev2; exact hev2)) ?_
          show mjGo _ _ 103 ([some (.ref 0), some (.int (nI e)), some (.int 0), some (.ref (27 + 2 * e)), o4, some (.int (nI p)), some (.int (nI N)), some (.int (nI (stE g p).1))], [.int 1], mjH J3 Y3) _
          refine mjGo.run 5 (pc' := 56) (F' := ([some (.ref 0), some (.int (nI e)), some (.int 0), some (.ref (27 + 2 * e)), o4, some (.int (nI (stE g p).1)), some (.int ((nI N) + 1)), some (.int (nI (stE g p).1))], [], mjH J3 Y3)) (fun _ => rfl) ?_
          rw [hb, if_pos rfl] at htw
          have k9 := ih (stE g p).1 (N + 1) (stp s 108 (fld g p)) J3 Y3 (some (.int (nI (stE g p).1))) (by omega) hin (by omega) hwf (stp_VB hVB (by decide) hb) (hok hb) (fun q s9 J9 Y9 q1 => g1 q s9 J9 Y9 (htw.trans q1)) (fun s2 J9 Y9 p2 o7 q1 q2 q3 N2 q4 => g2 s2 J9 Y9 p2 o7 (htw.trans q1) q2 q3 N2 (by rw [hcn]; exact q4))
          rw [← nI_1] at k9
          exact k9
      · obtain ⟨J3, Y3, hev2, hok, hno, hkp⟩ := c_tk112 d hD2 hVB hNY hl hT
        rw [hl] at htw
        cases hb : okB s 112 (fld g p)
        · refine mjGo.run 2 (pc' := 60) (F' := ([some (.ref 0), some (.int (nI e)), some (.int 0), some (.ref (27 + 2 * e)), o4, some (.int (nI p)), some (.int (nI N)), o7], [.int 100, .int (nI N)], mjH J Y)) (fun _ => rfl) ?_
          refine mjGo.run 1 (pc' := (bif decide (100 ≤ (nI N)) then 123 else 63)) (F' := ([some (.ref 0), some (.int (nI e)), some (.int 0), some (.ref (27 + 2 * e)), o4, some (.int (nI p)), some (.int (nI N)), o7], [], mjH J Y)) (fun _ => rfl) ?_
          refine mjGo.brF (show ¬ 100 ≤ (nI N) by rw [show (100 : Int32) = nI 100 from rfl, nI_leI (by omega) (by omega)]; omega) ?_
          show mjGo _ _ 63 _ _
          refine mjGo.run 2 (pc' := 66) (F' := ([some (.ref 0), some (.int (nI e)), some (.int 0), some (.ref (27 + 2 * e)), o4, some (.int (nI p)), some (.int (nI N)), o7], [.ref (27 + 2 * e), .int (nI p)], mjH J Y)) (fun _ => rfl) ?_
          refine mjGo.op (pc' := 69) (F' := ([some (.ref 0), some (.int (nI e)), some (.int 0), some (.ref (27 + 2 * e)), o4, some (.int (nI p)), some (.int (nI N)), o7], [.int (J (27 + 2 * e) 2), .int (nI p)], mjH J Y)) (o := mjgetI [6] 2 69) rfl (fun _ => row_getI he) ?_
          refine mjGo.run 1 (pc' := (bif decide ((J (27 + 2 * e) 2) ≤ (nI p)) then 123 else 72)) (F' := ([some (.ref 0), some (.int (nI e)), some (.int 0), some (.ref (27 + 2 * e)), o4, some (.int (nI p)), some (.int (nI N)), o7], [], mjH J Y)) (fun _ => rfl) ?_
          refine mjGo.brF (show ¬ (J (27 + 2 * e) 2) ≤ (nI p) by rw [hJz, nI_leI (by omega) (by omega)]; omega) ?_
          show mjGo _ _ 72 _ _
          refine mjGo.run 3 (pc' := 76) (F' := ([some (.ref 0), some (.int (nI e)), some (.int 0), some (.ref (27 + 2 * e)), o4, some (.int (nI p)), some (.int (nI N)), o7], [.int (nI p), .ref (27 + 2 * e), .ref 0], mjH J Y)) (fun _ => rfl) ?_
          refine mjGo.call (n := 3) (j := 85) (nx := 79) (o := some (.int (nI (stE g p).1))) (h' := mjH J2 Y) (fun _ => rfl) (hev) ?_
          show mjGo _ _ 79 ([some (.ref 0), some (.int (nI e)), some (.int 0), some (.ref (27 + 2 * e)), o4, some (.int (nI p)), some (.int (nI N)), o7], [.int (nI (stE g p).1)], mjH J2 Y) _
          refine mjGo.run 2 (pc' := 83) (F' := ([some (.ref 0), some (.int (nI e)), some (.int 0), some (.ref (27 + 2 * e)), o4, some (.int (nI p)), some (.int (nI N)), some (.int (nI (stE g p).1))], [.int (nI (stE g p).1)], mjH J2 Y)) (fun _ => rfl) ?_
          refine mjGo.run 1 (pc' := (bif decide ((nI (stE g p).1) < 0) then 106 else 86)) (F' := ([some (.ref 0), some (.int (nI e)), some (.int 0), some (.ref (27 + 2 * e)), o4, some (.int (nI p)), some (.int (nI N)), some (.int (nI (stE g p).1))], [], mjH J2 Y)) (fun _ => rfl) ?_
          refine mjGo.brF (nI_pos (by omega)) ?_
          show mjGo _ _ 86 _ _
          refine mjGo.run 4 (pc' := 93) (F' := ([some (.ref 0), some (.int (nI e)), some (.int 0), some (.ref (27 + 2 * e)), o4, some (.int (nI p)), some (.int (nI N)), some (.int (nI (stE g p).1))], [.int (nI p), .ref (27 + 2 * e), .ref 7], mjH J2 Y)) (fun _ => rfl) ?_
          refine mjGo.callL (o := some (.int 112)) (h' := mjH J2 Y) (nx := 96) rfl rfl rfl ((row_N he).1) ⟨_, row_lk he, (by have q9 := c_xVal (d + 5) (I := J2) (X := Y) e (nI p) he; rw [hg2 p (by omega), hl] at q9; exact q9)⟩ ?_
          show mjGo _ _ 96 ([some (.ref 0), some (.int (nI e)), some (.int 0), some (.ref (27 + 2 * e)), o4, some (.int (nI p)), some (.int (nI N)), some (.int (nI (stE g p).1))], [.int 112, .ref 7], mjH J2 Y) _
          refine mjGo.run 2 (pc' := 100) (F' := ([some (.ref 0), some (.int (nI e)), some (.int 0), some (.ref (27 + 2 * e)), o4, some (.int (nI p)), some (.int (nI N)), some (.int (nI (stE g p).1))], [.ref 22, .int 112, .ref 7], mjH J2 Y)) (fun _ => rfl) ?_
          refine mjGo.call (n := 3) (j := 75) (nx := 103) (o := some (.int 0)) (h' := mjH J3 Y3) (fun _ => rfl) ((by rw [hb] at hev2; exact hev2)) ?_
          show mjGo _ _ 103 ([some (.ref 0), some (.int (nI e)), some (.int 0), some (.ref (27 + 2 * e)), o4, some (.int (nI p)), some (.int (nI N)), some (.int (nI (stE g p).1))], [.int 0], mjH J3 Y3) _
          rw [hb, if_neg (by decide)] at htw
          obtain ⟨z1, z2⟩ := hno hb
          subst z1
          subst z2
          refine mjGo.ret 5 (fun _ => rfl) (g1 p s J3 Y3 htw hVB hD2)
        · refine mjGo.run 2 (pc' := 60) (F' := ([some (.ref 0), some (.int (nI e)), some (.int 0), some (.ref (27 + 2 * e)), o4, some (.int (nI p)), some (.int (nI N)), o7], [.int 100, .int (nI N)], mjH J Y)) (fun _ => rfl) ?_
          refine mjGo.run 1 (pc' := (bif decide (100 ≤ (nI N)) then 123 else 63)) (F' := ([some (.ref 0), some (.int (nI e)), some (.int 0), some (.ref (27 + 2 * e)), o4, some (.int (nI p)), some (.int (nI N)), o7], [], mjH J Y)) (fun _ => rfl) ?_
          refine mjGo.brF (show ¬ 100 ≤ (nI N) by rw [show (100 : Int32) = nI 100 from rfl, nI_leI (by omega) (by omega)]; omega) ?_
          show mjGo _ _ 63 _ _
          refine mjGo.run 2 (pc' := 66) (F' := ([some (.ref 0), some (.int (nI e)), some (.int 0), some (.ref (27 + 2 * e)), o4, some (.int (nI p)), some (.int (nI N)), o7], [.ref (27 + 2 * e), .int (nI p)], mjH J Y)) (fun _ => rfl) ?_
          refine mjGo.op (pc' := 69) (F' := ([some (.ref 0), some (.int (nI e)), some (.int 0), some (.ref (27 + 2 * e)), o4, some (.int (nI p)), some (.int (nI N)), o7], [.int (J (27 + 2 * e) 2), .int (nI p)], mjH J Y)) (o := mjgetI [6] 2 69) rfl (fun _ => row_getI he) ?_
          refine mjGo.run 1 (pc' := (bif decide ((J (27 + 2 * e) 2) ≤ (nI p)) then 123 else 72)) (F' := ([some (.ref 0), some (.int (nI e)), some (.int 0), some (.ref (27 + 2 * e)), o4, some (.int (nI p)), some (.int (nI N)), o7], [], mjH J Y)) (fun _ => rfl) ?_
          refine mjGo.brF (show ¬ (J (27 + 2 * e) 2) ≤ (nI p) by rw [hJz, nI_leI (by omega) (by omega)]; omega) ?_
          show mjGo _ _ 72 _ _
          refine mjGo.run 3 (pc' := 76) (F' := ([some (.ref 0), some (.int (nI e)), some (.int 0), some (.ref (27 + 2 * e)), o4, some (.int (nI p)), some (.int (nI N)), o7], [.int (nI p), .ref (27 + 2 * e), .ref 0], mjH J Y)) (fun _ => rfl) ?_
          refine mjGo.call (n := 3) (j := 85) (nx := 79) (o := some (.int (nI (stE g p).1))) (h' := mjH J2 Y) (fun _ => rfl) (hev) ?_
          show mjGo _ _ 79 ([some (.ref 0), some (.int (nI e)), some (.int 0), some (.ref (27 + 2 * e)), o4, some (.int (nI p)), some (.int (nI N)), o7], [.int (nI (stE g p).1)], mjH J2 Y) _
          refine mjGo.run 2 (pc' := 83) (F' := ([some (.ref 0), some (.int (nI e)), some (.int 0), some (.ref (27 + 2 * e)), o4, some (.int (nI p)), some (.int (nI N)), some (.int (nI (stE g p).1))], [.int (nI (stE g p).1)], mjH J2 Y)) (fun _ => rfl) ?_
          refine mjGo.run 1 (pc' := (bif decide ((nI (stE g p).1) < 0) then 106 else 86)) (F' := ([some (.ref 0), some (.int (nI e)), some (.int 0), some (.ref (27 + 2 * e)), o4, some (.int (nI p)), some (.int (nI N)), some (.int (nI (stE g p).1))], [], mjH J2 Y)) (fun _ => rfl) ?_
          refine mjGo.brF (nI_pos (by omega)) ?_
          show mjGo _ _ 86 _ _
          refine mjGo.run 4 (pc' := 93) (F' := ([some (.ref 0), some (.int (nI e)), some (.int 0), some (.ref (27 + 2 * e)), o4, some (.int (nI p)), some (.int (nI N)), some (.int (nI (stE g p).1))], [.int (nI p), .ref (27 + 2 * e), .ref 7], mjH J2 Y)) (fun _ => rfl) ?_
          refine mjGo.callL (o := some (.int 112)) (h' := mjH J2 Y) (nx := 96) rfl rfl rfl ((row_N he).1) ⟨_, row_lk he, (by have q9 := c_xVal (d + 5) (I := J2) (X := Y) e (nI p) he; rw [hg2 p (by omega), hl] at q9; exact q9)⟩ ?_
          show mjGo _ _ 96 ([some (.ref 0), some (.int (nI e)), some (.int 0), some (.ref (27 + 2 * e)), o4, some (.int (nI p)), some (.int (nI N)), some (.int (nI (stE g p).1))], [.int 112, .ref 7], mjH J2 Y) _
          refine mjGo.run 2 (pc' := 100) (F' := ([some (.ref 0), some (.int (nI e)), some (.int 0), some (.ref (27 + 2 * e)), o4, some (.int (nI p)), some (.int (nI N)), some (.int (nI (stE g p).1))], [.ref 22, .int 112, .ref 7], mjH J2 Y)) (fun _ => rfl) ?_
          refine mjGo.call (n := 3) (j := 75) (nx := 103) (o := some (.int 1)) (h' := mjH J3 Y3) (fun _ => rfl) ((by rw [hb] at hev2; exact hev2)) ?_
          show mjGo _ _ 103 ([some (.ref 0), some (.int (nI e)), some (.int 0), some (.ref (27 + 2 * e)), o4, some (.int (nI p)), some (.int (nI N)), some (.int (nI (stE g p).1))], [.int 1], mjH J3 Y3) _
          refine mjGo.run 5 (pc' := 56) (F' := ([some (.ref 0), some (.int (nI e)), some (.int 0), some (.ref (27 + 2 * e)), o4, some (.int (nI (stE g p).1)), some (.int ((nI N) + 1)), some (.int (nI (stE g p).1))], [], mjH J3 Y3)) (fun _ => rfl) ?_
          rw [hb, if_pos rfl] at htw
          have k9 := ih (stE g p).1 (N + 1) (stp s 112 (fld g p)) J3 Y3 (some (.int (nI (stE g p).1))) (by omega) hin (by omega) hwf (stp_VB hVB (by decide) hb) (hok hb) (fun q s9 J9 Y9 q1 => g1 q s9 J9 Y9 (htw.trans q1)) (fun s2 J9 Y9 p2 o7 q1 q2 q3 N2 q4 => g2 s2 J9 Y9 p2 o7 (htw.trans q1) q2 q3 N2 (by rw [hcn]; exact q4))
          rw [← nI_1] at k9
          exact k9
    · refine mjGo.run 2 (pc' := 60) (F' := ([some (.ref 0), some (.int (nI e)), some (.int 0), some (.ref (27 + 2 * e)), o4, some (.int (nI p)), some (.int (nI N)), o7], [.int 100, .int (nI N)], mjH J Y)) (fun _ => rfl) ?_
      refine mjGo.run 1 (pc' := (bif decide (100 ≤ (nI N)) then 123 else 63)) (F' := ([some (.ref 0), some (.int (nI e)), some (.int 0), some (.ref (27 + 2 * e)), o4, some (.int (nI p)), some (.int (nI N)), o7], [], mjH J Y)) (fun _ => rfl) ?_
      refine mjGo.brF (show ¬ 100 ≤ (nI N) by rw [show (100 : Int32) = nI 100 from rfl, nI_leI (by omega) (by omega)]; omega) ?_
      show mjGo _ _ 63 _ _
      refine mjGo.run 2 (pc' := 66) (F' := ([some (.ref 0), some (.int (nI e)), some (.int 0), some (.ref (27 + 2 * e)), o4, some (.int (nI p)), some (.int (nI N)), o7], [.ref (27 + 2 * e), .int (nI p)], mjH J Y)) (fun _ => rfl) ?_
      refine mjGo.op (pc' := 69) (F' := ([some (.ref 0), some (.int (nI e)), some (.int 0), some (.ref (27 + 2 * e)), o4, some (.int (nI p)), some (.int (nI N)), o7], [.int (J (27 + 2 * e) 2), .int (nI p)], mjH J Y)) (o := mjgetI [6] 2 69) rfl (fun _ => row_getI he) ?_
      refine mjGo.run 1 (pc' := (bif decide ((J (27 + 2 * e) 2) ≤ (nI p)) then 123 else 72)) (F' := ([some (.ref 0), some (.int (nI e)), some (.int 0), some (.ref (27 + 2 * e)), o4, some (.int (nI p)), some (.int (nI N)), o7], [], mjH J Y)) (fun _ => rfl) ?_
      refine mjGo.brT (show (J (27 + 2 * e) 2) ≤ (nI p) by rw [hJz, nI_leI (by omega) (by omega)]; omega) ?_
      show mjGo _ _ 123 _ _
      exact g2 s J Y _ _ (by rw [tw, if_neg hlt]) hVB hD N (by unfold cnN; rw [if_neg hlt])
def xTwP (I : Nat → Nat → Int32) (X : MX) (g : Nat → Int32) (sz : Nat) (s : TS) (o : Option Value) (h2 : MH) : Prop := o = some (.int (twA g sz s)) ∧ (((twS g sz s = s ∧ ∃ J Y, h2 = mjH J Y ∧ eqN (X.2.2.2.1 + 75) I J ∧ xle X Y ∧ grw X Y) ∨ ∃ J Y, h2 = mjH (bcI1_7 J) (cpP Y 5 11 6) ∧ VB (twS g sz s) ∧ dR I X s.2.2.1 (twS g sz s) J Y))
theorem dR.eqN {I0 : Nat → Nat → Int32} {X0 : MX} {n0 : Nat} {s : TS} {J : Nat → Nat → Int32} {Y : MX} (h : dR I0 X0 n0 s J Y) (hVB : VB s) : eqN (X0.2.2.2.1 + 75) I0 J ∧ xle X0 Y ∧ grw X0 Y := by
  obtain ⟨h1, h2, h3, h4, h5, h6, h7, h8, ⟨n1, n2, n3, n4⟩, h10, h11⟩ := h
  have := hVB.2.2.1
  refine ⟨fun k j hk hk2 => h7 k j hk2 ?_ ?_, h8, ?_, ?_, ?_, ?_⟩
  · refine Classical.byContradiction fun w => ?_
    have e1 : Nat.ble 7 k = true := Nat.ble_eq.mpr (by omega)
    have e2 : Nat.ble k 12 = true := Nat.ble_eq.mpr (by omega)
    unfold scr at hk
    rw [e1, e2] at hk
    simp at hk
  · rintro rfl
    exact absurd hk (by simp [scr])
  · omega
  · omega
  · omega
  · omega
theorem syn_lt {g : Nat → Int32} {sz : Nat} (g0 : ∀ q, sz ≤ q → g q = 0) : ∀ (k p n : Nat), p ≤ sz → ∀ w, (syn g sz k p n).1 = some w → w ≤ sz
  | 0, _, _, _, _, h => by cases h
  | k + 1, p, n, hp, w, h => by
    rw [syn] at h
    have ⟨hin, _⟩ := stE_in g0 hp
    by_cases q : (stE g p).2 = true
    · rw [if_pos q] at h
      by_cases q2 : (stE g p).1 < sz
      · rw [if_pos q2] at h
        exact syn_lt g0 k _ _ hin w h
      · rw [if_neg q2] at h
        cases h
    · rw [if_neg q] at h
      cases h
      exact hin
theorem dR_0 {I J1 : Nat → Nat → Int32} {X : MX} {np n9 nl lw : Nat} (hT : tR I X 1 44 np n9 nl lw) (hA : lkA X) (hJ1 : ∀ k, k ≠ 22 → J1 k = I k) : dR I X nl (I, n9, nl, np) (bcI7_1 J1) (cpP X 11 5 6) := by
  obtain ⟨⟨g1, g2⟩, ⟨g3, g4⟩, ⟨g5, g6⟩, ⟨g7, g8⟩, ⟨r1, r2, r3, r4⟩, g9, g10, g11, g12, g13⟩ := hT
  have j1 := hJ1 1 (by omega)
  have b8 : ∀ j, j < 5 → bcI7_1 J1 8 j = I 45 j := fun j hj => by
    show va_cpy (J1 2) (J1 8) 0 0 5 j = _
    rw [cpy_lt hj, hJ1 2 (by omega)]
    exact congrFun r1 j
  have b9 : ∀ j, j < 5 → bcI7_1 J1 9 j = I 46 j := fun j hj => by
    show va_cpy (J1 3) (J1 9) 0 0 5 j = _
    rw [cpy_lt hj, hJ1 3 (by omega)]
    exact congrFun r2 j
  have b10 : ∀ j, j < 5 → bcI7_1 J1 10 j = I 47 j := fun j hj => by
    show va_cpy (J1 4) (J1 10) 0 0 5 j = _
    rw [cpy_lt hj, hJ1 4 (by omega)]
    exact congrFun r3 j
  have b12 : ∀ j, j < 8 → bcI7_1 J1 12 j = I 52 j := fun j hj => by
    show va_cpy (J1 6) (J1 12) 0 0 8 j = _
    rw [cpy_lt hj, hJ1 6 (by omega)]
    exact congrFun r4 j
  have key : ∀ k, (k < 7 ∨ 12 < k) → k ≠ 22 → bcI7_1 J1 k = I k := fun k hk hk2 => by
    unfold bcI7_1
    rw [mjU_r (by omega), mjU_r (by omega), mjU_r (by omega), mjU_r (by omega), mjR_ne (by omega), mjR_ne (by omega), mjR_ne (by omega), mjR_ne (by omega), hJ1 k hk2]
  refine ⟨⟨?_, ?_, ?_, lw, g12, ?_, g8⟩, fun j hj => ⟨b8 j hj, b9 j hj, b10 j hj⟩, b12, ⟨g9, g10⟩, fun i hi => ?_, fun i hi => ?_, fun k j _ hk hk2 => by rw [key k hk hk2], ⟨fun k j hk => cpP_r (by omega), fun _ _ => rfl, Nat.le_refl _⟩, ⟨Nat.le_refl _, rfl, rfl, rfl⟩, fun j _ => ⟨rfl, rfl, rfl⟩, fun j _ => rfl⟩
  · show J1 1 5 = _
    rw [j1, g1]
  · show J1 1 6 = _
    rw [j1, g3]
  · show J1 1 7 = _
    rw [j1, g5]
  · show J1 1 8 = _
    rw [j1, g7]
  · obtain ⟨a, kd, wn, q0, qK, q1, q2, q3, q4, q5, q6, q7, q8⟩ := g13 i hi
    have hi6 : i < 6 := Nat.lt_of_lt_of_le hi g11
    refine ⟨a, kd, wn, (cpP_k hi6).trans q0, qK, ?_⟩
    rw [key a (by have := qK.1; omega) (by have := qK.1; omega)]
    exact ⟨q1, q2, q3, q4, q5, q6, q7, q8⟩
  · unfold dN
    rw [cpP_k hi]
    rcases hA 5 i (Or.inl rfl) hi with q | ⟨a, kd, q1, q2⟩
    · exact Or.inl q
    · exact Or.inr ⟨a, kd, q1, q2⟩
theorem x_town (d : Nat) {e sz : Nat} {g : Nat → Int32} {np n9 nl lw : Nat} {I : Nat → Nat → Int32} {X : MX} (hT : tR I X 1 44 np n9 nl lw) (hA : lkA X) (hN0 : X.2.2.2.1 ≤ 800000) (he : e < 8) (hh : I 24 e = 2) (hq : I (27 + 2 * e) 1 = 0) (hz : I (27 + 2 * e) 2 = nI sz) (hs : sz ≤ 100) (hg : gOf I e g) (g0 : ∀ q, sz ≤ q → g q = 0) : mjEvP (d + 7) nyX11_town [.ref 0, .int (nI e)] (mjH I X) (xTwP I X g sz (I, n9, nl, np)) := by
  refine mjEvP.of ?_
  show mjGo (d + 7) nyX11_town 0 ([some (.ref 0), some (.int (nI e)), none, none, none, none, none, none], [], mjH I X) _
  refine mjGo.run 3 (pc' := 3) (F' := ([some (.ref 0), some (.int (nI e)), none, none, none, none, none, none], [.int 0, .int (nI e), .ref 0], mjH I X)) (fun _ => rfl) ?_
  refine mjGo.call (n := 3) (j := 78) (nx := 6) (o := some (.int 0)) (h' := mjH I X) (fun _ => rfl) (c_rrE _ he hh (by decide) hq) ?_
  show mjGo _ _ 6 ([some (.ref 0), some (.int (nI e)), none, none, none, none, none, none], [.int 0], mjH I X) _
  refine mjGo.run 6 (pc' := 18) (F' := ([some (.ref 0), some (.int (nI e)), some (.int 0), none, none, none, none, none], [.int (nI e), .ref 26], mjH I X)) (fun _ => rfl) ?_
  refine mjGo.op (pc' := 19) (F' := ([some (.ref 0), some (.int (nI e)), some (.int 0), none, none, none, none, none], [.ref (27 + 2 * e)], mjH I X)) (o := mjaald 15 19) rfl (fun _ => row_aald he) ?_
  refine mjGo.run 3 (pc' := 22) (F' := ([some (.ref 0), some (.int (nI e)), some (.int 0), some (.ref (27 + 2 * e)), none, none, none, none], [.ref (27 + 2 * e), .ref 0], mjH I X)) (fun _ => rfl) ?_
  obtain ⟨o9, h9, hev, J1, rfl, hJ1, rfl⟩ := c_xFw (d + 1) (X := X) he hz hs hg g0
  refine mjGo.call (n := 2) (j := 86) (nx := 25) (o := some (.int (fwA (syn g sz (sz + 1) 0 0).1))) (h' := mjH J1 X) (fun _ => rfl) (hev) ?_
  show mjGo _ _ 25 ([some (.ref 0), some (.int (nI e)), some (.int 0), some (.ref (27 + 2 * e)), none, none, none, none], [.int (fwA (syn g sz (sz + 1) 0 0).1)], mjH J1 X) _
  have hE1 : eqN (X.2.2.2.1 + 75) I J1 := fun k j hk hk2 => congrFun (hJ1 k (by rintro rfl; exact absurd hk (by simp [scr]))) j
  cases hw : (syn g sz (sz + 1) 0 0).1 with
  | some w =>
    obtain ⟨e1, e2⟩ := twA_w (s := (I, n9, nl, np)) hw
    have hw2 : w < 2 ^ 31 := by have := syn_lt g0 (sz + 1) 0 0 (by omega) w hw; omega
    show mjGo _ _ 25 ([some (.ref 0), some (.int (nI e)), some (.int 0), some (.ref (27 + 2 * e)), none, none, none, none], [.int (nI w)], mjH J1 X) _
    refine mjGo.run 2 (pc' := 29) (F' := ([some (.ref 0), some (.int (nI e)), some (.int 0), some (.ref (27 + 2 * e)), some (.int (nI w)), none, none, none], [.int (nI w)], mjH J1 X)) (fun _ => rfl) ?_
    refine mjGo.run 1 (pc' := (bif decide ((nI w) < 0) then 39 else 32)) (F' := ([some (.ref 0), some (.int (nI e)), some (.int 0), some (.ref (27 + 2 * e)), some (.int (nI w)), none, none, none], [], mjH J1 X)) (fun _ => rfl) ?_
    refine mjGo.brF (nI_pos hw2) ?_
    show mjGo _ _ 32 _ _
    exact mjGo.ret 4 (fun _ => rfl) ⟨_, rfl, by rw [e1], Or.inl ⟨e2, J1, X, rfl, hE1, xle.rf, grw.rf⟩⟩
  | none =>
    show mjGo _ _ 25 ([some (.ref 0), some (.int (nI e)), some (.int 0), some (.ref (27 + 2 * e)), none, none, none, none], [.int (-1)], mjH J1 X) _
    refine mjGo.run 7 (pc' := 47) (F' := ([some (.ref 0), some (.int (nI e)), some (.int 0), some (.ref (27 + 2 * e)), some (.int (-1)), none, none, none], [.ref 1, .ref 7], mjH J1 X)) (fun _ => rfl) ?_
    refine mjGo.call (n := 2) (j := 67) (nx := 50) (o := none) (h' := mjH (bcI7_1 J1) (cpP X 11 5 6)) (fun _ => rfl) (c_bc7_1 _ (X := X) (fun i hi => hA 5 i (Or.inl rfl) hi)) ?_
    show mjGo _ _ 50 ([some (.ref 0), some (.int (nI e)), some (.int 0), some (.ref (27 + 2 * e)), some (.int (-1)), none, none, none], [], mjH (bcI7_1 J1) (cpP X 11 5 6)) _
    refine mjGo.run 4 (pc' := 56) (F' := ([some (.ref 0), some (.int (nI e)), some (.int 0), some (.ref (27 + 2 * e)), some (.int (-1)), some (.int 0), some (.int 0), none], [], mjH (bcI7_1 J1) (cpP X 11 5 6))) (fun _ => rfl) ?_
    have hVB : VB (I, n9, nl, np) := ⟨⟨hT.1.2, hT.2.1.2, hT.2.2.1.2⟩, hT.2.2.2.2.2.1.1, hT.2.2.2.2.2.2.2.1, hT.2.2.2.2.2.2.1.1⟩
    have hsz : 0 < sz := by
      refine Nat.pos_of_ne_zero fun z => ?_
      subst z
      rw [syn, show stE g 0 = (0, false) by unfold stE; rw [g0 0 (by omega)]; rfl, if_neg (by decide)] at hw
      cases hw
    have hD0 := dR_0 (X := X) hT hA hJ1
    refine x_tw (d := d) (e := e) (sz := sz) (n0 := nl) (g := g) (I0 := I) (X0 := X) he hz hs hg g0 hN0 (sz + 1) 0 0 (I, n9, nl, np) (bcI7_1 J1) (cpP X 11 5 6) none (by omega) (by omega) (by omega) (syn_wf _ _ _ hw) hVB hD0 (fun q s9 J Y htw hVB9 hD => ?_) (fun s2 J Y p2 o7 htw hVB2 hD N2 hN2 => ?_)
    · obtain ⟨e1, e2⟩ := twA_q hw htw
      exact ⟨_, rfl, by rw [e1], Or.inl ⟨e2, J, Y, rfl, hD.eqN hVB9⟩⟩
    · obtain ⟨e1, e2⟩ := twA_y hw htw
      refine mjGo.run 4 (pc' := 131) (F' := ([some (.ref 0), some (.int (nI e)), some (.int 0), some (.ref (27 + 2 * e)), some (.int (-1)), some (.int (nI p2)), some (.int (nI N2)), o7], [.ref 7, .ref 1], mjH J Y)) (fun _ => rfl) ?_
      refine mjGo.call (n := 2) (j := 67) (nx := 134) (o := none) (h' := mjH (bcI1_7 J) (cpP Y 5 11 6)) (fun _ => rfl) (c_bc1_7 _ (X := Y) hD.2.2.2.2.2.1) ?_
      show mjGo _ _ 134 ([some (.ref 0), some (.int (nI e)), some (.int 0), some (.ref (27 + 2 * e)), some (.int (-1)), some (.int (nI p2)), some (.int (nI N2)), o7], [], mjH (bcI1_7 J) (cpP Y 5 11 6)) _
      subst hN2
      refine mjGo.ret 2 (fun _ => rfl) ⟨_, rfl, ?_, Or.inr ⟨J, Y, rfl, by rw [e2]; exact hVB2, by rw [e2]; exact hD⟩⟩
      rw [e1]
      unfold cnN
      rw [if_pos hsz]
