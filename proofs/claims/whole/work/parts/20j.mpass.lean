/-! town: the reference, its three ways through the text -/
theorem m_r1 {d e sz : Nat} {g : Nat → Int32} {I0 : Nat → Nat → Int32} {X : MX} {r : MO × MH → Prop} (he : e < 8) (hs : sz ≤ 100) (hf0 : I0 43 27 = nI (100 * e)) (ht0 : I0 43 28 = nI sz) (gm0 : ∀ q, q < sz → I0 69 (100 * e + q) = g q) (g0 : ∀ q, sz ≤ q → g q = 0) : ∀ (k p n : Nat) (J : Nat → Nat → Int32), sz + 1 ≤ p + k → p ≤ sz → eqO scq I0 J → J 43 29 = nI p → J 43 30 = 1 →
    (∀ w J, (syn g sz k p n).1 = some w → eqO scq I0 J → r (.inl (some (.int (-1000 - nI w))), mjH J X)) → ((syn g sz k p n).1 = none → ∀ J, eqO scq I0 J → J 43 30 = 1 → mjGo (d + 3) nyX12_read 54 ([some (.ref 43), some (.int (nI (syn g sz k p n).2)), none, none, none, none, none, none, none], [], mjH J X) r) →
    mjGo (d + 3) nyX12_read 12 ([some (.ref 43), some (.int (nI n)), none, none, none, none, none, none, none], [], mjH J X) r := by
  intro k
  induction k with
  | zero => intro p n J h1 h2; omega
  | succ k ih =>
    intro p n J h1 h2 heq h29 h30 g1 g2
    have ⟨hin, hadv⟩ := stE_in g0 h2
    obtain ⟨o9, h9, hev, J2, rfl, heq2, k29, k30, rfl, -⟩ := c_mSt (d := d) (X := X) he hs ((heq 43 27 rfl).trans hf0) ((heq 43 28 rfl).trans ht0) (fun q hq => (heq 69 _ rfl).trans (gm0 q hq)) g0 h29 h30 h2
    have heq3 : eqO scq I0 J2 := heq.trans heq2
    cases hw : (stE g p).2
    · refine mjGo.run 1 (pc' := 13) (F' := ([some (.ref 43), some (.int (nI n)), none, none, none, none, none, none, none], [.ref 43], mjH J X)) (fun _ => rfl) ?_
      refine mjGo.call (n := 1) (j := 183) (nx := 16) (o := some (.int (g p))) (h' := mjH J2 X) (fun _ => rfl) (hev) ?_
      show mjGo _ _ 16 ([some (.ref 43), some (.int (nI n)), none, none, none, none, none, none, none], [.int (g p)], mjH J2 X) _
      refine mjGo.run 4 (pc' := 24) (F' := ([some (.ref 43), some (.int ((nI n) + 1)), none, none, none, none, none, none, none], [.int (J2 43 30)], mjH J2 X)) (fun _ => rfl) ?_
      refine mjGo.run 1 (pc' := (bif decide ((J2 43 30) = 0) then 38 else 27)) (F' := ([some (.ref 43), some (.int ((nI n) + 1)), none, none, none, none, none, none, none], [], mjH J2 X)) (fun _ => rfl) ?_
      refine mjGo.brT (by rw [k30, hw]; rfl) ?_
      show mjGo _ _ 38 _ _
      refine mjGo.run 2 (pc' := 42) (F' := ([some (.ref 43), some (.int ((nI n) + 1)), none, none, none, none, none, none, none], [.int (J2 43 30)], mjH J2 X)) (fun _ => rfl) ?_
      refine mjGo.run 1 (pc' := (bif decide ((J2 43 30) ≠ 0) then 54 else 45)) (F' := ([some (.ref 43), some (.int ((nI n) + 1)), none, none, none, none, none, none, none], [], mjH J2 X)) (fun _ => rfl) ?_
      refine mjGo.brF (by rw [k30, hw]; decide) ?_
      show mjGo _ _ 45 _ _
      refine mjGo.run 3 (pc' := 52) (F' := ([some (.ref 43), some (.int ((nI n) + 1)), none, none, none, none, none, none, none], [.int (J2 43 29), .int (-1000)], mjH J2 X)) (fun _ => rfl) ?_
      refine mjGo.run 0 (pc' := 52) (F' := ([some (.ref 43), some (.int ((nI n) + 1)), none, none, none, none, none, none, none], [.int (J2 43 29), .int (-1000)], mjH J2 X)) (fun _ => rfl) ?_
      rw [show (J2 43 29) = (nI (stE g p).1) from k29]
      refine mjGo.ret 2 (fun _ => rfl) (g1 (stE g p).1 J2 (by rw [syn, hw, if_neg (by decide)]) heq3)
    · have hadv := hadv hw
      by_cases w : (stE g p).1 < sz
      · refine mjGo.run 1 (pc' := 13) (F' := ([some (.ref 43), some (.int (nI n)), none, none, none, none, none, none, none], [.ref 43], mjH J X)) (fun _ => rfl) ?_
        refine mjGo.call (n := 1) (j := 183) (nx := 16) (o := some (.int (g p))) (h' := mjH J2 X) (fun _ => rfl) (hev) ?_
        show mjGo _ _ 16 ([some (.ref 43), some (.int (nI n)), none, none, none, none, none, none, none], [.int (g p)], mjH J2 X) _
        refine mjGo.run 4 (pc' := 24) (F' := ([some (.ref 43), some (.int ((nI n) + 1)), none, none, none, none, none, none, none], [.int (J2 43 30)], mjH J2 X)) (fun _ => rfl) ?_
        refine mjGo.run 1 (pc' := (bif decide ((J2 43 30) = 0) then 38 else 27)) (F' := ([some (.ref 43), some (.int ((nI n) + 1)), none, none, none, none, none, none, none], [], mjH J2 X)) (fun _ => rfl) ?_
        refine mjGo.brF (by rw [k30, hw]; decide) ?_
        show mjGo _ _ 27 _ _
        refine mjGo.run 4 (pc' := 35) (F' := ([some (.ref 43), some (.int ((nI n) + 1)), none, none, none, none, none, none, none], [.int (J2 43 28), .int (J2 43 29)], mjH J2 X)) (fun _ => rfl) ?_
        refine mjGo.run 1 (pc' := (bif decide ((J2 43 29) < (J2 43 28)) then 12 else 38)) (F' := ([some (.ref 43), some (.int ((nI n) + 1)), none, none, none, none, none, none, none], [], mjH J2 X)) (fun _ => rfl) ?_
        refine mjGo.brT (by rw [k29, heq3 43 28 rfl, ht0, nI_ltI (by omega) (by omega)]; exact w) ?_
        show mjGo _ _ 12 _ _
        have k9 := ih (stE g p).1 (n + 1) J2 (by omega) hin heq3 k29 (by rw [k30, hw]; rfl) (fun w9 J9 q1 q2 => g1 w9 J9 (by rw [syn, hw, if_pos rfl, if_pos w]; exact q1) q2) (fun q1 J9 q2 q3 => by have q9 := g2 (by rw [syn, hw, if_pos rfl, if_pos w]; exact q1) J9 q2 q3; rw [syn, hw, if_pos rfl, if_pos w] at q9; exact q9)
        rw [← nI_1] at k9
        exact k9
      · refine mjGo.run 1 (pc' := 13) (F' := ([some (.ref 43), some (.int (nI n)), none, none, none, none, none, none, none], [.ref 43], mjH J X)) (fun _ => rfl) ?_
        refine mjGo.call (n := 1) (j := 183) (nx := 16) (o := some (.int (g p))) (h' := mjH J2 X) (fun _ => rfl) (hev) ?_
        show mjGo _ _ 16 ([some (.ref 43), some (.int (nI n)), none, none, none, none, none, none, none], [.int (g p)], mjH J2 X) _
        refine mjGo.run 4 (pc' := 24) (F' := ([some (.ref 43), some (.int ((nI n) + 1)), none, none, none, none, none, none, none], [.int (J2 43 30)], mjH J2 X)) (fun _ => rfl) ?_
        refine mjGo.run 1 (pc' := (bif decide ((J2 43 30) = 0) then 38 else 27)) (F' := ([some (.ref 43), some (.int ((nI n) + 1)), none, none, none, none, none, none, none], [], mjH J2 X)) (fun _ => rfl) ?_
        refine mjGo.brF (by rw [k30, hw]; decide) ?_
        show mjGo _ _ 27 _ _
        refine mjGo.run 4 (pc' := 35) (F' := ([some (.ref 43), some (.int ((nI n) + 1)), none, none, none, none, none, none, none], [.int (J2 43 28), .int (J2 43 29)], mjH J2 X)) (fun _ => rfl) ?_
        refine mjGo.run 1 (pc' := (bif decide ((J2 43 29) < (J2 43 28)) then 12 else 38)) (F' := ([some (.ref 43), some (.int ((nI n) + 1)), none, none, none, none, none, none, none], [], mjH J2 X)) (fun _ => rfl) ?_
        refine mjGo.brF (by rw [k29, heq3 43 28 rfl, ht0, nI_ltI (by omega) (by omega)]; exact w) ?_
        show mjGo _ _ 38 _ _
        refine mjGo.run 2 (pc' := 42) (F' := ([some (.ref 43), some (.int ((nI n) + 1)), none, none, none, none, none, none, none], [.int (J2 43 30)], mjH J2 X)) (fun _ => rfl) ?_
        refine mjGo.run 1 (pc' := (bif decide ((J2 43 30) ≠ 0) then 54 else 45)) (F' := ([some (.ref 43), some (.int ((nI n) + 1)), none, none, none, none, none, none, none], [], mjH J2 X)) (fun _ => rfl) ?_
        refine mjGo.brT (by rw [k30, hw]; decide) ?_
        show mjGo _ _ 54 _ _
        have q9 := g2 (by rw [syn, hw, if_pos rfl, if_neg w]) J2 heq3 (by rw [k30, hw]; rfl)
        rw [syn, hw, if_pos rfl, if_neg w, ← nI_1] at q9
        exact q9
theorem laT_119 {s : TS} {F : Nat → Int32} : laT (stp s 119 F) = F 0 := by
  rw [stp_119]
  unfold laT
  show (if s.2.1 + 1 = 0 then (-1 : Int32) else _) = _
  rw [if_neg (by omega)]
  show mjU (mjU (mjU (mjU s.1 45 s.2.1 (F 0)) 46 s.2.1 (F 1)) 47 s.2.1 (F 2)) 44 0 (nI (s.2.1 + 1)) 45 (s.2.1 + 1 - 1) = _
  rw [mjU_r (by decide), mjU_r (by decide), mjU_r (by decide), show s.2.1 + 1 - 1 = s.2.1 by omega, mjU_eq]
theorem plT_112 {s : TS} {F : Nat → Int32} : plT (stp s 112 F) = F 0 := by
  rw [stp_112]
  unfold plT
  show (if s.2.2.2 + 1 = 0 then (-1 : Int32) else _) = _
  rw [if_neg (by omega)]
  show mjU (mjU s.1 52 s.2.2.2 (F 0)) 44 2 (nI (s.2.2.2 + 1)) 52 (s.2.2.2 + 1 - 1) = _
  rw [mjU_r (by decide), show s.2.2.2 + 1 - 1 = s.2.2.2 by omega, mjU_eq]
theorem laT_o {s : TS} {F : Nat → Int32} : laT (stp s 107 F) = laT s ∧ laT (stp s 108 F) = laT s ∧ laT (stp s 112 F) = laT s := by
  rw [stp_107, stp_108, stp_112]
  exact ⟨rfl, rfl, rfl⟩
theorem plT_o {s : TS} {F : Nat → Int32} : plT (stp s 107 F) = plT s ∧ plT (stp s 108 F) = plT s ∧ plT (stp s 119 F) = plT s := by
  rw [stp_107, stp_108, stp_119]
  exact ⟨rfl, rfl, rfl⟩
theorem m_r2 {d e sz : Nat} {g : Nat → Int32} {I0 : Nat → Nat → Int32} {X : MX} {r : MO × MH → Prop} (he : e < 8) (hs : sz ≤ 100) (hf0 : I0 43 27 = nI (100 * e)) (ht0 : I0 43 28 = nI sz) (gm0 : ∀ q, q < sz → I0 69 (100 * e + q) = g q) (g0 : ∀ q, sz ≤ q → g q = 0) {N : Nat} : ∀ (k p : Nat) (s : TS) (J : Nat → Nat → Int32) (o7 o8 : Option Value), sz + 1 ≤ p + k → p ≤ sz → VB s → wfT g sz k p → eqO scq I0 J → J 43 29 = nI p → J 43 30 = 1 →
    (∀ q J, tw g sz k p s = .inl q → eqO scq I0 J → r (.inl (some (.int (-2000 - nI q))), mjH J X)) → (∀ s2, tw g sz k p s = .inr s2 → ∀ J o2 o3 o4 o5 o6 o7 o8, eqO scq I0 J → J 43 30 = 1 → mjGo (d + 3) nyX12_read 221 ([some (.ref 43), some (.int (nI N)), o2, o3, o4, o5, o6, o7, o8], [], mjH J X) r) →
    mjGo (d + 3) nyX12_read 119 ([some (.ref 43), some (.int (nI N)), some (.int (nI s.2.1)), some (.int (nI s.2.2.1)), some (.int (nI s.2.2.2)), some (.int (laT s)), some (.int (plT s)), o7, o8], [], mjH J X) r := by
  intro k
  induction k with
  | zero => intro p s J o7 o8 h1 h2; omega
  | succ k ih =>
    intro p s J o7 o8 h1 h2 hVB hwf heq h29 h30 g1 g2
    by_cases hlt : p < sz
    · obtain ⟨hw, hwf⟩ := hwf hlt
      have ⟨hin, hadv⟩ := stE_in g0 h2
      have hadv := hadv hw
      obtain ⟨o9, h9, hev, J2, rfl, heq2, k29, k30, rfl, hF⟩ := c_mSt (d := d) (X := X) he hs ((heq 43 27 rfl).trans hf0) ((heq 43 28 rfl).trans ht0) (fun q hq => (heq 69 _ rfl).trans (gm0 q hq)) g0 h29 h30 h2
      have hF := hF hw
      have heq3 : eqO scq I0 J2 := heq.trans heq2
      have htw : tw g sz (k + 1) p s = if okB s (g p) (fld g p) = true then tw g sz k (stE g p).1 (stp s (g p) (fld g p)) else .inl p := by rw [tw, if_pos hlt]
      rw [hw] at k30
      rcases stE_lt hw with hl | hl | hl | hl
      · rw [hl] at hev hF htw
        have hia := c_iat119 (d + 1) (s := s) (F := fld g p) (I := J2) (X := X) hVB hF
        cases hok : okB s 119 (fld g p)
        · refine mjGo.run 4 (pc' := 127) (F' := ([some (.ref 43), some (.int (nI N)), some (.int (nI s.2.1)), some (.int (nI s.2.2.1)), some (.int (nI s.2.2.2)), some (.int (laT s)), some (.int (plT s)), o7, o8], [.int (J 43 28), .int (J 43 29)], mjH J X)) (fun _ => rfl) ?_
          refine mjGo.run 1 (pc' := (bif decide ((J 43 28) ≤ (J 43 29)) then 221 else 130)) (F' := ([some (.ref 43), some (.int (nI N)), some (.int (nI s.2.1)), some (.int (nI s.2.2.1)), some (.int (nI s.2.2.2)), some (.int (laT s)), some (.int (plT s)), o7, o8], [], mjH J X)) (fun _ => rfl) ?_
          refine mjGo.brF (by rw [h29, heq 43 28 rfl, ht0, nI_leI (by omega) (by omega)]; omega) ?_
          show mjGo _ _ 130 _ _
          refine mjGo.run 2 (pc' := 134) (F' := ([some (.ref 43), some (.int (nI N)), some (.int (nI s.2.1)), some (.int (nI s.2.2.1)), some (.int (nI s.2.2.2)), some (.int (laT s)), some (.int (plT s)), o7, o8], [.int (J 43 29)], mjH J X)) (fun _ => rfl) ?_
          refine mjGo.run 0 (pc' := 134) (F' := ([some (.ref 43), some (.int (nI N)), some (.int (nI s.2.1)), some (.int (nI s.2.2.1)), some (.int (nI s.2.2.2)), some (.int (laT s)), some (.int (plT s)), o7, o8], [.int (J 43 29)], mjH J X)) (fun _ => rfl) ?_
          rw [show (J 43 29) = (nI p) from h29]
          refine mjGo.run 2 (pc' := 137) (F' := ([some (.ref 43), some (.int (nI N)), some (.int (nI s.2.1)), some (.int (nI s.2.2.1)), some (.int (nI s.2.2.2)), some (.int (laT s)), some (.int (plT s)), some (.int (nI p)), o8], [.ref 43], mjH J X)) (fun _ => rfl) ?_
          refine mjGo.call (n := 1) (j := 183) (nx := 140) (o := some (.int 119)) (h' := mjH J2 X) (fun _ => rfl) (hev) ?_
          show mjGo _ _ 140 ([some (.ref 43), some (.int (nI N)), some (.int (nI s.2.1)), some (.int (nI s.2.2.1)), some (.int (nI s.2.2.2)), some (.int (laT s)), some (.int (plT s)), some (.int (nI p)), o8], [.int 119], mjH J2 X) _
          refine mjGo.run 8 (pc' := 153) (F' := ([some (.ref 43), some (.int (nI N)), some (.int (nI s.2.1)), some (.int (nI s.2.2.1)), some (.int (nI s.2.2.2)), some (.int (laT s)), some (.int (plT s)), some (.int (nI p)), some (.int 119)], [.int (plT s), .int (laT s), .int (nI s.2.2.2), .int (nI s.2.2.1), .int (nI s.2.1), .int 119, .ref 43], mjH J2 X)) (fun _ => rfl) ?_
          refine mjGo.call (n := 7) (j := 184) (nx := 156) (o := some (.int 0)) (h' := mjH J2 X) (fun _ => rfl) ((by rw [hok] at hia; exact hia)) ?_
          show mjGo _ _ 156 ([some (.ref 43), some (.int (nI N)), some (.int (nI s.2.1)), some (.int (nI s.2.2.1)), some (.int (nI s.2.2.2)), some (.int (laT s)), some (.int (plT s)), some (.int (nI p)), some (.int 119)], [.int 0], mjH J2 X) _
          rw [hok, if_neg (by decide)] at htw
          refine mjGo.ret 5 (fun _ => rfl) (g1 p J2 htw heq3)
        · refine mjGo.run 4 (pc' := 127) (F' := ([some (.ref 43), some (.int (nI N)), some (.int (nI s.2.1)), some (.int (nI s.2.2.1)), some (.int (nI s.2.2.2)), some (.int (laT s)), some (.int (plT s)), o7, o8], [.int (J 43 28), .int (J 43 29)], mjH J X)) (fun _ => rfl) ?_
          refine mjGo.run 1 (pc' := (bif decide ((J 43 28) ≤ (J 43 29)) then 221 else 130)) (F' := ([some (.ref 43), some (.int (nI N)), some (.int (nI s.2.1)), some (.int (nI s.2.2.1)), some (.int (nI s.2.2.2)), some (.int (laT s)), some (.int (plT s)), o7, o8], [], mjH J X)) (fun _ => rfl) ?_
          refine mjGo.brF (by rw [h29, heq 43 28 rfl, ht0, nI_leI (by omega) (by omega)]; omega) ?_
          show mjGo _ _ 130 _ _
          refine mjGo.run 2 (pc' := 134) (F' := ([some (.ref 43), some (.int (nI N)), some (.int (nI s.2.1)), some (.int (nI s.2.2.1)), some (.int (nI s.2.2.2)), some (.int (laT s)), some (.int (plT s)), o7, o8], [.int (J 43 29)], mjH J X)) (fun _ => rfl) ?_
          refine mjGo.run 0 (pc' := 134) (F' := ([some (.ref 43), some (.int (nI N)), some (.int (nI s.2.1)), some (.int (nI s.2.2.1)), some (.int (nI s.2.2.2)), some (.int (laT s)), some (.int (plT s)), o7, o8], [.int (J 43 29)], mjH J X)) (fun _ => rfl) ?_
          rw [show (J 43 29) = (nI p) from h29]
          refine mjGo.run 2 (pc' := 137) (F' := ([some (.ref 43), some (.int (nI N)), some (.int (nI s.2.1)), some (.int (nI s.2.2.1)), some (.int (nI s.2.2.2)), some (.int (laT s)), some (.int (plT s)), some (.int (nI p)), o8], [.ref 43], mjH J X)) (fun _ => rfl) ?_
          refine mjGo.call (n := 1) (j := 183) (nx := 140) (o := some (.int 119)) (h' := mjH J2 X) (fun _ => rfl) (hev) ?_
          show mjGo _ _ 140 ([some (.ref 43), some (.int (nI N)), some (.int (nI s.2.1)), some (.int (nI s.2.2.1)), some (.int (nI s.2.2.2)), some (.int (laT s)), some (.int (plT s)), some (.int (nI p)), o8], [.int 119], mjH J2 X) _
          refine mjGo.run 8 (pc' := 153) (F' := ([some (.ref 43), some (.int (nI N)), some (.int (nI s.2.1)), some (.int (nI s.2.2.1)), some (.int (nI s.2.2.2)), some (.int (laT s)), some (.int (plT s)), some (.int (nI p)), some (.int 119)], [.int (plT s), .int (laT s), .int (nI s.2.2.2), .int (nI s.2.2.1), .int (nI s.2.1), .int 119, .ref 43], mjH J2 X)) (fun _ => rfl) ?_
          refine mjGo.call (n := 7) (j := 184) (nx := 156) (o := some (.int 1)) (h' := mjH J2 X) (fun _ => rfl) ((by rw [hok] at hia; exact hia)) ?_
          show mjGo _ _ 156 ([some (.ref 43), some (.int (nI N)), some (.int (nI s.2.1)), some (.int (nI s.2.2.1)), some (.int (nI s.2.2.2)), some (.int (laT s)), some (.int (plT s)), some (.int (nI p)), some (.int 119)], [.int 1], mjH J2 X) _
          refine mjGo.run 9 (pc' := 182) (F' := ([some (.ref 43), some (.int (nI N)), some (.int ((nI s.2.1) + 1)), some (.int (nI s.2.2.1)), some (.int (nI s.2.2.2)), some (.int (laT s)), some (.int (plT s)), some (.int (nI p)), some (.int 119)], [.int (J2 65 0)], mjH J2 X)) (fun _ => rfl) ?_
          refine mjGo.run 0 (pc' := 182) (F' := ([some (.ref 43), some (.int (nI N)), some (.int ((nI s.2.1) + 1)), some (.int (nI s.2.2.1)), some (.int (nI s.2.2.2)), some (.int (laT s)), some (.int (plT s)), some (.int (nI p)), some (.int 119)], [.int (J2 65 0)], mjH J2 X)) (fun _ => rfl) ?_
          rw [show (J2 65 0) = (fld g p 0) from hF 0 (by decide)]
          refine mjGo.run 3 (pc' := 119) (F' := ([some (.ref 43), some (.int (nI N)), some (.int ((nI s.2.1) + 1)), some (.int (nI s.2.2.1)), some (.int (nI s.2.2.2)), some (.int (fld g p 0)), some (.int (plT s)), some (.int (nI p)), some (.int 119)], [], mjH J2 X)) (fun _ => rfl) ?_
          rw [hok, if_pos rfl] at htw
          have k9 := ih (stE g p).1 (stp s 119 (fld g p)) J2 (some (.int (nI p))) (some (.int 119)) (by omega) hin (stp_VB hVB (by decide) hok) hwf heq3 k29 k30 (fun q J9 q1 q2 => g1 q J9 (htw.trans q1) q2) (fun s2 q1 => g2 s2 (htw.trans q1))
          rw [laT_119, plT_o.2.2, stp_119] at k9
          have k9 : mjGo (d + 3) nyX12_read 119 ([some (.ref 43), some (.int (nI N)), some (.int (nI (s.2.1 + 1))), some (.int (nI s.2.2.1)), some (.int (nI s.2.2.2)), some (.int (fld g p 0)), some (.int (plT s)), some (.int (nI p)), some (.int 119)], [], mjH J2 X) r := k9
          rw [← nI_1] at k9
          exact k9
      · rw [hl] at hev hF htw
        have hia := c_iat107 (d + 1) (s := s) (F := fld g p) (I := J2) (X := X) hVB hF
        cases hok : okB s 107 (fld g p)
        · refine mjGo.run 4 (pc' := 127) (F' := ([some (.ref 43), some (.int (nI N)), some (.int (nI s.2.1)), some (.int (nI s.2.2.1)), some (.int (nI s.2.2.2)), some (.int (laT s)), some (.int (plT s)), o7, o8], [.int (J 43 28), .int (J 43 29)], mjH J X)) (fun _ => rfl) ?_
          refine mjGo.run 1 (pc' := (bif decide ((J 43 28) ≤ (J 43 29)) then 221 else 130)) (F' := ([some (.ref 43), some (.int (nI N)), some (.int (nI s.2.1)), some (.int (nI s.2.2.1)), some (.int (nI s.2.2.2)), some (.int (laT s)), some (.int (plT s)), o7, o8], [], mjH J X)) (fun _ => rfl) ?_
          refine mjGo.brF (by rw [h29, heq 43 28 rfl, ht0, nI_leI (by omega) (by omega)]; omega) ?_
          show mjGo _ _ 130 _ _
          refine mjGo.run 2 (pc' := 134) (F' := ([some (.ref 43), some (.int (nI N)), some (.int (nI s.2.1)), some (.int (nI s.2.2.1)), some (.int (nI s.2.2.2)), some (.int (laT s)), some (.int (plT s)), o7, o8], [.int (J 43 29)], mjH J X)) (fun _ => rfl) ?_
          refine mjGo.run 0 (pc' := 134) (F' := ([some (.ref 43), some (.int (nI N)), some (.int (nI s.2.1)), some (.int (nI s.2.2.1)), some (.int (nI s.2.2.2)), some (.int (laT s)), some (.int (plT s)), o7, o8], [.int (J 43 29)], mjH J X)) (fun _ => rfl) ?_
          rw [show (J 43 29) = (nI p) from h29]
          refine mjGo.run 2 (pc' := 137) (F' := ([some (.ref 43), some (.int (nI N)), some (.int (nI s.2.1)), some (.int (nI s.2.2.1)), some (.int (nI s.2.2.2)), some (.int (laT s)), some (.int (plT s)), some (.int (nI p)), o8], [.ref 43], mjH J X)) (fun _ => rfl) ?_
          refine mjGo.call (n := 1) (j := 183) (nx := 140) (o := some (.int 107)) (h' := mjH J2 X) (fun _ => rfl) (hev) ?_
          show mjGo _ _ 140 ([some (.ref 43), some (.int (nI N)), some (.int (nI s.2.1)), some (.int (nI s.2.2.1)), some (.int (nI s.2.2.2)), some (.int (laT s)), some (.int (plT s)), some (.int (nI p)), o8], [.int 107], mjH J2 X) _
          refine mjGo.run 8 (pc' := 153) (F' := ([some (.ref 43), some (.int (nI N)), some (.int (nI s.2.1)), some (.int (nI s.2.2.1)), some (.int (nI s.2.2.2)), some (.int (laT s)), some (.int (plT s)), some (.int (nI p)), some (.int 107)], [.int (plT s), .int (laT s), .int (nI s.2.2.2), .int (nI s.2.2.1), .int (nI s.2.1), .int 107, .ref 43], mjH J2 X)) (fun _ => rfl) ?_
          refine mjGo.call (n := 7) (j := 184) (nx := 156) (o := some (.int 0)) (h' := mjH J2 X) (fun _ => rfl) ((by rw [hok] at hia; exact hia)) ?_
          show mjGo _ _ 156 ([some (.ref 43), some (.int (nI N)), some (.int (nI s.2.1)), some (.int (nI s.2.2.1)), some (.int (nI s.2.2.2)), some (.int (laT s)), some (.int (plT s)), some (.int (nI p)), some (.int 107)], [.int 0], mjH J2 X) _
          rw [hok, if_neg (by decide)] at htw
          refine mjGo.ret 5 (fun _ => rfl) (g1 p J2 htw heq3)
        · refine mjGo.run 4 (pc' := 127) (F' := ([some (.ref 43), some (.int (nI N)), some (.int (nI s.2.1)), some (.int (nI s.2.2.1)), some (.int (nI s.2.2.2)), some (.int (laT s)), some (.int (plT s)), o7, o8], [.int (J 43 28), .int (J 43 29)], mjH J X)) (fun _ => rfl) ?_
          refine mjGo.run 1 (pc' := (bif decide ((J 43 28) ≤ (J 43 29)) then 221 else 130)) (F' := ([some (.ref 43), some (.int (nI N)), some (.int (nI s.2.1)), some (.int (nI s.2.2.1)), some (.int (nI s.2.2.2)), some (.int (laT s)), some (.int (plT s)), o7, o8], [], mjH J X)) (fun _ => rfl) ?_
          refine mjGo.brF (by rw [h29, heq 43 28 rfl, ht0, nI_leI (by omega) (by omega)]; omega) ?_
          show mjGo _ _ 130 _ _
          refine mjGo.run 2 (pc' := 134) (F' := ([some (.ref 43), some (.int (nI N)), some (.int (nI s.2.1)), some (.int (nI s.2.2.1)), some (.int (nI s.2.2.2)), some (.int (laT s)), some (.int (plT s)), o7, o8], [.int (J 43 29)], mjH J X)) (fun _ => rfl) ?_
          refine mjGo.run 0 (pc' := 134) (F' := ([some (.ref 43), some (.int (nI N)), some (.int (nI s.2.1)), some (.int (nI s.2.2.1)), some (.int (nI s.2.2.2)), some (.int (laT s)), some (.int (plT s)), o7, o8], [.int (J 43 29)], mjH J X)) (fun _ => rfl) ?_
          rw [show (J 43 29) = (nI p) from h29]
          refine mjGo.run 2 (pc' := 137) (F' := ([some (.ref 43), some (.int (nI N)), some (.int (nI s.2.1)), some (.int (nI s.2.2.1)), some (.int (nI s.2.2.2)), some (.int (laT s)), some (.int (plT s)), some (.int (nI p)), o8], [.ref 43], mjH J X)) (fun _ => rfl) ?_
          refine mjGo.call (n := 1) (j := 183) (nx := 140) (o := some (.int 107)) (h' := mjH J2 X) (fun _ => rfl) (hev) ?_
          show mjGo _ _ 140 ([some (.ref 43), some (.int (nI N)), some (.int (nI s.2.1)), some (.int (nI s.2.2.1)), some (.int (nI s.2.2.2)), some (.int (laT s)), some (.int (plT s)), some (.int (nI p)), o8], [.int 107], mjH J2 X) _
          refine mjGo.run 8 (pc' := 153) (F' := ([some (.ref 43), some (.int (nI N)), some (.int (nI s.2.1)), some (.int (nI s.2.2.1)), some (.int (nI s.2.2.2)), some (.int (laT s)), some (.int (plT s)), some (.int (nI p)), some (.int 107)], [.int (plT s), .int (laT s), .int (nI s.2.2.2), .int (nI s.2.2.1), .int (nI s.2.1), .int 107, .ref 43], mjH J2 X)) (fun _ => rfl) ?_
          refine mjGo.call (n := 7) (j := 184) (nx := 156) (o := some (.int 1)) (h' := mjH J2 X) (fun _ => rfl) ((by rw [hok] at hia; exact hia)) ?_
          show mjGo _ _ 156 ([some (.ref 43), some (.int (nI N)), some (.int (nI s.2.1)), some (.int (nI s.2.2.1)), some (.int (nI s.2.2.2)), some (.int (laT s)), some (.int (plT s)), some (.int (nI p)), some (.int 107)], [.int 1], mjH J2 X) _
          refine mjGo.run 10 (pc' := 119) (F' := ([some (.ref 43), some (.int (nI N)), some (.int (nI s.2.1)), some (.int ((nI s.2.2.1) + 1)), some (.int (nI s.2.2.2)), some (.int (laT s)), some (.int (plT s)), some (.int (nI p)), some (.int 107)], [], mjH J2 X)) (fun _ => rfl) ?_
          rw [hok, if_pos rfl] at htw
          have k9 := ih (stE g p).1 (stp s 107 (fld g p)) J2 (some (.int (nI p))) (some (.int 107)) (by omega) hin (stp_VB hVB (by decide) hok) hwf heq3 k29 k30 (fun q J9 q1 q2 => g1 q J9 (htw.trans q1) q2) (fun s2 q1 => g2 s2 (htw.trans q1))
          rw [laT_o.1, plT_o.1, stp_107] at k9
          have k9 : mjGo (d + 3) nyX12_read 119 ([some (.ref 43), some (.int (nI N)), some (.int (nI s.2.1)), some (.int (nI (s.2.2.1 + 1))), some (.int (nI s.2.2.2)), some (.int (laT s)), some (.int (plT s)), some (.int (nI p)), some (.int 107)], [], mjH J2 X) r := k9
          rw [← nI_1] at k9
          exact k9
      · rw [hl] at hev hF htw
        have hia := c_iat108 (d + 1) (s := s) (F := fld g p) (I := J2) (X := X) hVB hF
        cases hok : okB s 108 (fld g p)
        · refine mjGo.run 4 (pc' := 127) (F' := ([some (.ref 43), some (.int (nI N)), some (.int (nI s.2.1)), some (.int (nI s.2.2.1)), some (.int (nI s.2.2.2)), some (.int (laT s)), some (.int (plT s)), o7, o8], [.int (J 43 28), .int (J 43 29)], mjH J X)) (fun _ => rfl) ?_
          refine mjGo.run 1 (pc' := (bif decide ((J 43 28) ≤ (J 43 29)) then 221 else 130)) (F' := ([some (.ref 43), some (.int (nI N)), some (.int (nI s.2.1)), some (.int (nI s.2.2.1)), some (.int (nI s.2.2.2)), some (.int (laT s)), some (.int (plT s)), o7, o8], [], mjH J X)) (fun _ => rfl) ?_
          refine mjGo.brF (by rw [h29, heq 43 28 rfl, ht0, nI_leI (by omega) (by omega)]; omega) ?_
          show mjGo _ _ 130 _ _
          refine mjGo.run 2 (pc' := 134) (F' := ([some (.ref 43), some (.int (nI N)), some (.int (nI s.2.1)), some (.int (nI s.2.2.1)), some (.int (nI s.2.2.2)), some (.int (laT s)), some (.int (plT s)), o7, o8], [.int (J 43 29)], mjH J X)) (fun _ => rfl) ?_
          refine mjGo.run 0 (pc' := 134) (F' := ([some (.ref 43), some (.int (nI N)), some (.int (nI s.2.1)), some (.int (nI s.2.2.1)), some (.int (nI s.2.2.2)), some (.int (laT s)), some (.int (plT s)), o7, o8], [.int (J 43 29)], mjH J X)) (fun _ => rfl) ?_
          rw [show (J 43 29) = (nI p) from h29]
          refine mjGo.run 2 (pc' := 137) (F' := ([some (.ref 43), some (.int (nI N)), some (.int (nI s.2.1)), some (.int (nI s.2.2.1)), some (.int (nI s.2.2.2)), some (.int (laT s)), some (.int (plT s)), some (.int (nI p)), o8], [.ref 43], mjH J X)) (fun _ => rfl) ?_
          refine mjGo.call (n := 1) (j := 183) (nx := 140) (o := some (.int 108)) (h' := mjH J2 X) (fun _ => rfl) (hev) ?_
          show mjGo _ _ 140 ([some (.ref 43), some (.int (nI N)), some (.int (nI s.2.1)), some (.int (nI s.2.2.1)), some (.int (nI s.2.2.2)), some (.int (laT s)), some (.int (plT s)), some (.int (nI p)), o8], [.int 108], mjH J2 X) _
          refine mjGo.run 8 (pc' := 153) (F' := ([some (.ref 43), some (.int (nI N)), some (.int (nI s.2.1)), some (.int (nI s.2.2.1)), some (.int (nI s.2.2.2)), some (.int (laT s)), some (.int (plT s)), some (.int (nI p)), some (.int 108)], [.int (plT s), .int (laT s), .int (nI s.2.2.2), .int (nI s.2.2.1), .int (nI s.2.1), .int 108, .ref 43], mjH J2 X)) (fun _ => rfl) ?_
          refine mjGo.call (n := 7) (j := 184) (nx := 156) (o := some (.int 0)) (h' := mjH J2 X) (fun _ => rfl) ((by rw [hok] at hia; exact hia)) ?_
          show mjGo _ _ 156 ([some (.ref 43), some (.int (nI N)), some (.int (nI s.2.1)), some (.int (nI s.2.2.1)), some (.int (nI s.2.2.2)), some (.int (laT s)), some (.int (plT s)), some (.int (nI p)), some (.int 108)], [.int 0], mjH J2 X) _
          rw [hok, if_neg (by decide)] at htw
          refine mjGo.ret 5 (fun _ => rfl) (g1 p J2 htw heq3)
        · refine mjGo.run 4 (pc' := 127) (F' := ([some (.ref 43), some (.int (nI N)), some (.int (nI s.2.1)), some (.int (nI s.2.2.1)), some (.int (nI s.2.2.2)), some (.int (laT s)), some (.int (plT s)), o7, o8], [.int (J 43 28), .int (J 43 29)], mjH J X)) (fun _ => rfl) ?_
          refine mjGo.run 1 (pc' := (bif decide ((J 43 28) ≤ (J 43 29)) then 221 else 130)) (F' := ([some (.ref 43), some (.int (nI N)), some (.int (nI s.2.1)), some (.int (nI s.2.2.1)), some (.int (nI s.2.2.2)), some (.int (laT s)), some (.int (plT s)), o7, o8], [], mjH J X)) (fun _ => rfl) ?_
          refine mjGo.brF (by rw [h29, heq 43 28 rfl, ht0, nI_leI (by omega) (by omega)]; omega) ?_
          show mjGo _ _ 130 _ _
          refine mjGo.run 2 (pc' := 134) (F' := ([some (.ref 43), some (.int (nI N)), some (.int (nI s.2.1)), some (.int (nI s.2.2.1)), some (.int (nI s.2.2.2)), some (.int (laT s)), some (.int (plT s)), o7, o8], [.int (J 43 29)], mjH J X)) (fun _ => rfl) ?_
          refine mjGo.run 0 (pc' := 134) (F' := ([some (.ref 43), some (.int (nI N)), some (.int (nI s.2.1)), some (.int (nI s.2.2.1)), some (.int (nI s.2.2.2)), some (.int (laT s)), some (.int (plT s)), o7, o8], [.int (J 43 29)], mjH J X)) (fun _ => rfl) ?_
          rw [show (J 43 29) = (nI p) from h29]
          refine mjGo.run 2 (pc' := 137) (F' := ([some (.ref 43), some (.int (nI N)), some (.int (nI s.2.1)), some (.int (nI s.2.2.1)), some (.int (nI s.2.2.2)), some (.int (laT s)), some (.int (plT s)), some (.int (nI p)), o8], [.ref 43], mjH J X)) (fun _ => rfl) ?_
          refine mjGo.call (n := 1) (j := 183) (nx := 140) (o := some (.int 108)) (h' := mjH J2 X) (fun _ => rfl) (hev) ?_
          show mjGo _ _ 140 ([some (.ref 43), some (.int (nI N)), some (.int (nI s.2.1)), some (.int (nI s.2.2.1)), some (.int (nI s.2.2.2)), some (.int (laT s)), some (.int (plT s)), some (.int (nI p)), o8], [.int 108], mjH J2 X) _
          refine mjGo.run 8 (pc' := 153) (F' := ([some (.ref 43), some (.int (nI N)), some (.int (nI s.2.1)), some (.int (nI s.2.2.1)), some (.int (nI s.2.2.2)), some (.int (laT s)), some (.int (plT s)), some (.int (nI p)), some (.int 108)], [.int (plT s), .int (laT s), .int (nI s.2.2.2), .int (nI s.2.2.1), .int (nI s.2.1), .int 108, .ref 43], mjH J2 X)) (fun _ => rfl) ?_
          refine mjGo.call (n := 7) (j := 184) (nx := 156) (o := some (.int 1)) (h' := mjH J2 X) (fun _ => rfl) ((by rw [hok] at hia; exact hia)) ?_
          show mjGo _ _ 156 ([some (.ref 43), some (.int (nI N)), some (.int (nI s.2.1)), some (.int (nI s.2.2.1)), some (.int (nI s.2.2.2)), some (.int (laT s)), some (.int (plT s)), some (.int (nI p)), some (.int 108)], [.int 1], mjH J2 X) _
          refine mjGo.run 11 (pc' := 119) (F' := ([some (.ref 43), some (.int (nI N)), some (.int (nI s.2.1)), some (.int (nI s.2.2.1)), some (.int (nI s.2.2.2)), some (.int (laT s)), some (.int (plT s)), some (.int (nI p)), some (.int 108)], [], mjH J2 X)) (fun _ => rfl) ?_
          rw [hok, if_pos rfl] at htw
          have k9 := ih (stE g p).1 (stp s 108 (fld g p)) J2 (some (.int (nI p))) (some (.int 108)) (by omega) hin (stp_VB hVB (by decide) hok) hwf heq3 k29 k30 (fun q J9 q1 q2 => g1 q J9 (htw.trans q1) q2) (fun s2 q1 => g2 s2 (htw.trans q1))
          rw [laT_o.2.1, plT_o.2.1, stp_108] at k9
          exact k9
      · rw [hl] at hev hF htw
        have hia := c_iat112 (d + 1) (s := s) (F := fld g p) (I := J2) (X := X) hVB hF
        cases hok : okB s 112 (fld g p)
        · refine mjGo.run 4 (pc' := 127) (F' := ([some (.ref 43), some (.int (nI N)), some (.int (nI s.2.1)), some (.int (nI s.2.2.1)), some (.int (nI s.2.2.2)), some (.int (laT s)), some (.int (plT s)), o7, o8], [.int (J 43 28), .int (J 43 29)], mjH J X)) (fun _ => rfl) ?_
          refine mjGo.run 1 (pc' := (bif decide ((J 43 28) ≤ (J 43 29)) then 221 else 130)) (F' := ([some (.ref 43), some (.int (nI N)), some (.int (nI s.2.1)), some (.int (nI s.2.2.1)), some (.int (nI s.2.2.2)), some (.int (laT s)), some (.int (plT s)), o7, o8], [], mjH J X)) (fun _ => rfl) ?_
          refine mjGo.brF (by rw [h29, heq 43 28 rfl, ht0, nI_leI (by omega) (by omega)]; omega) ?_
          show mjGo _ _ 130 _ _
          refine mjGo.run 2 (pc' := 134) (F' := ([some (.ref 43), some (.int (nI N)), some (.int (nI s.2.1)), some (.int (nI s.2.2.1)), some (.int (nI s.2.2.2)), some (.int (laT s)), some (.int (plT s)), o7, o8], [.int (J 43 29)], mjH J X)) (fun _ => rfl) ?_
          refine mjGo.run 0 (pc' := 134) (F' := ([some (.ref 43), some (.int (nI N)), some (.int (nI s.2.1)), some (.int (nI s.2.2.1)), some (.int (nI s.2.2.2)), some (.int (laT s)), some (.int (plT s)), o7, o8], [.int (J 43 29)], mjH J X)) (fun _ => rfl) ?_
          rw [show (J 43 29) = (nI p) from h29]
          refine mjGo.run 2 (pc' := 137) (F' := ([some (.ref 43), some (.int (nI N)), some (.int (nI s.2.1)), some (.int (nI s.2.2.1)), some (.int (nI s.2.2.2)), some (.int (laT s)), some (.int (plT s)), some (.int (nI p)), o8], [.ref 43], mjH J X)) (fun _ => rfl) ?_
          refine mjGo.call (n := 1) (j := 183) (nx := 140) (o := some (.int 112)) (h' := mjH J2 X) (fun _ => rfl) (hev) ?_
          show mjGo _ _ 140 ([some (.ref 43), some (.int (nI N)), some (.int (nI s.2.1)), some (.int (nI s.2.2.1)), some (.int (nI s.2.2.2)), some (.int (laT s)), some (.int (plT s)), some (.int (nI p)), o8], [.int 112], mjH J2 X) _
          refine mjGo.run 8 (pc' := 153) (F' := ([some (.ref 43), some (.int (nI N)), some (.int (nI s.2.1)), some (.int (nI s.2.2.1)), some (.int (nI s.2.2.2)), some (.int (laT s)), some (.int (plT s)), some (.int (nI p)), some (.int 112)], [.int (plT s), .int (laT s), .int (nI s.2.2.2), .int (nI s.2.2.1), .int (nI s.2.1), .int 112, .ref 43], mjH J2 X)) (fun _ => rfl) ?_
          refine mjGo.call (n := 7) (j := 184) (nx := 156) (o := some (.int 0)) (h' := mjH J2 X) (fun _ => rfl) ((by rw [hok] at hia; exact hia)) ?_
          show mjGo _ _ 156 ([some (.ref 43), some (.int (nI N)), some (.int (nI s.2.1)), some (.int (nI s.2.2.1)), some (.int (nI s.2.2.2)), some (.int (laT s)), some (.int (plT s)), some (.int (nI p)), some (.int 112)], [.int 0], mjH J2 X) _
          rw [hok, if_neg (by decide)] at htw
          refine mjGo.ret 5 (fun _ => rfl) (g1 p J2 htw heq3)
        · refine mjGo.run 4 (pc' := 127) (F' := ([some (.ref 43), some (.int (nI N)), some (.int (nI s.2.1)), some (.int (nI s.2.2.1)), some (.int (nI s.2.2.2)), some (.int (laT s)), some (.int (plT s)), o7, o8], [.int (J 43 28), .int (J 43 29)], mjH J X)) (fun _ => rfl) ?_
          refine mjGo.run 1 (pc' := (bif decide ((J 43 28) ≤ (J 43 29)) then 221 else 130)) (F' := ([some (.ref 43), some (.int (nI N)), some (.int (nI s.2.1)), some (.int (nI s.2.2.1)), some (.int (nI s.2.2.2)), some (.int (laT s)), some (.int (plT s)), o7, o8], [], mjH J X)) (fun _ => rfl) ?_
          refine mjGo.brF (by rw [h29, heq 43 28 rfl, ht0, nI_leI (by omega) (by omega)]; omega) ?_
          show mjGo _ _ 130 _ _
          refine mjGo.run 2 (pc' := 134) (F' := ([some (.ref 43), some (.int (nI N)), some (.int (nI s.2.1)), some (.int (nI s.2.2.1)), some (.int (nI s.2.2.2)), some (.int (laT s)), some (.int (plT s)), o7, o8], [.int (J 43 29)], mjH J X)) (fun _ => rfl) ?_
          refine mjGo.run 0 (pc' := 134) (F' := ([some (.ref 43), some (.int (nI N)), some (.int (nI s.2.1)), some (.int (nI s.2.2.1)), some (.int (nI s.2.2.2)), some (.int (laT s)), some (.int (plT s)), o7, o8], [.int (J 43 29)], mjH J X)) (fun _ => rfl) ?_
          rw [show (J 43 29) = (nI p) from h29]
          refine mjGo.run 2 (pc' := 137) (F' := ([some (.ref 43), some (.int (nI N)), some (.int (nI s.2.1)), some (.int (nI s.2.2.1)), some (.int (nI s.2.2.2)), some (.int (laT s)), some (.int (plT s)), some (.int (nI p)), o8], [.ref 43], mjH J X)) (fun _ => rfl) ?_
          refine mjGo.call (n := 1) (j := 183) (nx := 140) (o := some (.int 112)) (h' := mjH J2 X) (fun _ => rfl) (hev) ?_
          show mjGo _ _ 140 ([some (.ref 43), some (.int (nI N)), some (.int (nI s.2.1)), some (.int (nI s.2.2.1)), some (.int (nI s.2.2.2)), some (.int (laT s)), some (.int (plT s)), some (.int (nI p)), o8], [.int 112], mjH J2 X) _
          refine mjGo.run 8 (pc' := 153) (F' := ([some (.ref 43), some (.int (nI N)), some (.int (nI s.2.1)), some (.int (nI s.2.2.1)), some (.int (nI s.2.2.2)), some (.int (laT s)), some (.int (plT s)), some (.int (nI p)), some (.int 112)], [.int (plT s), .int (laT s), .int (nI s.2.2.2), .int (nI s.2.2.1), .int (nI s.2.1), .int 112, .ref 43], mjH J2 X)) (fun _ => rfl) ?_
          refine mjGo.call (n := 7) (j := 184) (nx := 156) (o := some (.int 1)) (h' := mjH J2 X) (fun _ => rfl) ((by rw [hok] at hia; exact hia)) ?_
          show mjGo _ _ 156 ([some (.ref 43), some (.int (nI N)), some (.int (nI s.2.1)), some (.int (nI s.2.2.1)), some (.int (nI s.2.2.2)), some (.int (laT s)), some (.int (plT s)), some (.int (nI p)), some (.int 112)], [.int 1], mjH J2 X) _
          refine mjGo.run 15 (pc' := 216) (F' := ([some (.ref 43), some (.int (nI N)), some (.int (nI s.2.1)), some (.int (nI s.2.2.1)), some (.int ((nI s.2.2.2) + 1)), some (.int (laT s)), some (.int (plT s)), some (.int (nI p)), some (.int 112)], [.int (J2 65 0)], mjH J2 X)) (fun _ => rfl) ?_
          refine mjGo.run 0 (pc' := 216) (F' := ([some (.ref 43), some (.int (nI N)), some (.int (nI s.2.1)), some (.int (nI s.2.2.1)), some (.int ((nI s.2.2.2) + 1)), some (.int (laT s)), some (.int (plT s)), some (.int (nI p)), some (.int 112)], [.int (J2 65 0)], mjH J2 X)) (fun _ => rfl) ?_
          rw [show (J2 65 0) = (fld g p 0) from hF 0 (by decide)]
          refine mjGo.run 2 (pc' := 119) (F' := ([some (.ref 43), some (.int (nI N)), some (.int (nI s.2.1)), some (.int (nI s.2.2.1)), some (.int ((nI s.2.2.2) + 1)), some (.int (laT s)), some (.int (fld g p 0)), some (.int (nI p)), some (.int 112)], [], mjH J2 X)) (fun _ => rfl) ?_
          rw [hok, if_pos rfl] at htw
          have k9 := ih (stE g p).1 (stp s 112 (fld g p)) J2 (some (.int (nI p))) (some (.int 112)) (by omega) hin (stp_VB hVB (by decide) hok) hwf heq3 k29 k30 (fun q J9 q1 q2 => g1 q J9 (htw.trans q1) q2) (fun s2 q1 => g2 s2 (htw.trans q1))
          rw [plT_112, laT_o.2.2, stp_112] at k9
          have k9 : mjGo (d + 3) nyX12_read 119 ([some (.ref 43), some (.int (nI N)), some (.int (nI s.2.1)), some (.int (nI s.2.2.1)), some (.int (nI (s.2.2.2 + 1))), some (.int (laT s)), some (.int (fld g p 0)), some (.int (nI p)), some (.int 112)], [], mjH J2 X) r := k9
          rw [← nI_1] at k9
          exact k9
    · refine mjGo.run 4 (pc' := 127) (F' := ([some (.ref 43), some (.int (nI N)), some (.int (nI s.2.1)), some (.int (nI s.2.2.1)), some (.int (nI s.2.2.2)), some (.int (laT s)), some (.int (plT s)), o7, o8], [.int (J 43 28), .int (J 43 29)], mjH J X)) (fun _ => rfl) ?_
      refine mjGo.run 1 (pc' := (bif decide ((J 43 28) ≤ (J 43 29)) then 221 else 130)) (F' := ([some (.ref 43), some (.int (nI N)), some (.int (nI s.2.1)), some (.int (nI s.2.2.1)), some (.int (nI s.2.2.2)), some (.int (laT s)), some (.int (plT s)), o7, o8], [], mjH J X)) (fun _ => rfl) ?_
      refine mjGo.brT (by rw [h29, heq 43 28 rfl, ht0, nI_leI (by omega) (by omega)]; omega) ?_
      show mjGo _ _ 221 _ _
      exact g2 s (by rw [tw, if_neg hlt]) J _ _ _ _ _ _ _ heq h30
