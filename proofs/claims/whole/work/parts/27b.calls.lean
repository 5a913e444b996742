/-! the law's calls of what catches -/
theorem bpX_xle {X : MX} : xle X (bpX X) := ⟨fun _ _ _ => rfl, fun _ _ => rfl, Nat.le_refl _⟩
theorem mjH_inj {I I' : Nat → Nat → Int32} {X X' : MX} (h : mjH I X = mjH I' X') : X.2.2.2.1 = X'.2.2.2.1 ∧ X.2.2.2.2.1 = X'.2.2.2.2.1 ∧ X.2.2.2.2.2 = X'.2.2.2.2.2 := by
  have h1 : X.2.2.2.1 + 75 = X'.2.2.2.1 + 75 := congrArg (fun z : MH => z.2.2.2.2.1) h
  have h2 : X.2.2.2.2.1 = X'.2.2.2.2.1 := congrArg (fun z : MH => z.2.2.2.2.2.1) h
  have h3 : X.2.2.2.2.2 = X'.2.2.2.2.2 := congrArg (fun z : MH => z.2.2.2.2.2.2) h
  exact ⟨by omega, h2, h3⟩
def e3G (K : MK) (l : Launch) (F : MF) (r : Int32 × MH) : Prop := ∃ (I : Nat → Nat → Int32) (X : MX) (q : Int32), F.2.1 = [.int q, .ref 0] ∧ F.2.2 = mjH I X ∧ RI I X ∧ mjTsC K l (mjH I X) q r.1 ∧ r.2 = mjH I (bpX X) ∧ ∀ (d : Nat) (X9 : MX), mjEv (d + 12) nyX12_toss [.ref 43, .int q] (mjH I X9) (.inl (some (.int r.1))) (mjH I X9)
noncomputable def e3 (K : MK) (l : Launch) : MOp := fun _ F => @dite _ (∃ r, e3G K l F r) (Classical.propDecidable _) (fun h => some (.inl (1509, (F.1, [.int (Classical.choose h).1], (Classical.choose h).2)))) (fun _ => none)
theorem e3_at {K : MK} {l : Launch} {F : MF} {r : Int32 × MH} (h : e3G K l F r) : ∃ r, e3G K l F r ∧ ∀ call, e3 K l call F = some (.inl (1509, (F.1, [.int r.1], r.2))) := ⟨Classical.choose ⟨r, h⟩, Classical.choose_spec (⟨r, h⟩ : ∃ r, e3G K l F r), fun _ => dif_pos ⟨r, h⟩⟩
theorem e3_tos {K : MK} {l : Launch} (hl : l.stackTraces = false) : lTos (e3 K l) := by
  intro d I X q al hR hN
  obtain ⟨v, hC, hM⟩ := c_toss (K := K) hl hR q
  obtain ⟨r, hG, he⟩ := e3_at (K := K) (l := l) (F := (al, [.int q, .ref 0], mjH I X)) (r := (v, mjH I (bpX X))) ⟨I, X, q, rfl, rfl, hR, hC, rfl, hM⟩
  obtain ⟨I', X', q', es, eh, hR', hC', er, hM'⟩ := hG
  have eq' : q = q' := by
    have es : [Value.int q, .ref 0] = [.int q', .ref 0] := es
    injection es with e1 e2
    injection e1
  subst eq'
  obtain ⟨n1, n2, n3⟩ := mjH_inj (show mjH I X = mjH I' X' from eh)
  refine ⟨r.1, I', bpX X', fun call => by rw [he call, er], I', bpX X', hM' d _, hR'.eq eqN.rf bpX_xle, ?_⟩
  show X.2.2.2.1 ≤ X'.2.2.2.1 ∧ X'.2.2.2.1 ≤ X.2.2.2.1 + 8 ∧ X'.2.2.2.2.1 + 1 ≤ X.2.2.2.2.1 + 8 ∧ X'.2.2.2.2.2 + 6 ≤ X.2.2.2.2.2 + 64
  omega
theorem e3_mn {K : MK} {l : Launch} : mjMn (e3 K l) := fun _ _ _ _ _ h => h
theorem e3_ok {K : MK} {l : Launch} {d : Nat} {y : MethodName} : mjOkD K l mjGA mjM (d + 7) y "LookAtClockLaw" code 8 (some .boolean) 1506 (e3 K l) := by
  intro call hcall F res hres
  obtain ⟨al, st, h⟩ := F
  unfold e3 at hres
  split at hres
  · rename_i hG
    have sp := Classical.choose_spec hG
    generalize Classical.choose hG = r at hres sp
    obtain ⟨I, X, q, es, eh, hR, hC, er, hM⟩ := sp
    have es : st = [.int q, .ref 0] := es
    have eh : h = mjH I X := eh
    subst es; subst eh
    cases hres
    obtain ⟨v, h'⟩ := r
    have er : h' = mjH I (bpX X) := er
    subst er
    refine ⟨⟨Nat.le_refl _, Nat.le_succ _, Nat.le_add_right _ _⟩, ?_⟩
    intro p e R s m args below meth c cx Q c0 s0 cells slots H locs ls ad hW hF hS h1 h2 h3 h4 kn kr
    have cx0 := cx
    obtain ⟨hx, hb, hml, hr, hts, hown, hlk, hnm, hen, hr1, hr2⟩ := cx0
    have h1 : c0 + cells = X.2.2.2.2.1 := h1
    have h2 : s0 + slots = X.2.2.2.2.2 := h2
    have h3 : X.2.2.2.2.1 + 1 ≤ c0 + R.cells := h3
    have h4 : X.2.2.2.2.2 + 6 ≤ s0 + R.slots := h4
    have hrun := vx_runVX (e := e) (R := R) (below := below) (meth := meth) (H := H) (locs := locs) (cells := cells) (slots := slots) (C := "LookAtClock") (As := [.int q]) (b := ad 0) (rest := []) (g := F0 m 1506 ls [.int q, .ref (ad 0)]) ⟨hx, hb, hml, hown, hts⟩ (hC ad) (vx_cwVW 1 hts (mj_gi mjGA_good (fun w hw => ?_)) rfl rfl rfl ⟨rfl, by decide, by decide, by decide +kernel⟩ (by show 20 + 6 + 1 ≤ R.frames ∧ 8 + (5 + 11) + (600 + 60 * 6) ≤ R.locals; omega)) ⟨mjPm_blind, mj_recv hen hW (k := 0) (by show 0 < X.2.2.2.1 + 75; omega) rfl, mjPm_at hen hS hW⟩ rfl rfl hF.1.1 rfl (lv_room (by decide)) dL_law_1506 ⟨by omega, by omega⟩
    · refine mjx_after hrun hS (fun st v t hq => hq.2) (fun E st t hx => hx.elim) ?_ (fun E ce q st t H1 locs1 _ hx => hx.elim)
      intro v9 st9 t9 H1 locs1 hH hq hS1
      obtain ⟨⟨ad2, hv, he2, hW2, hs2⟩, hF2⟩ := hq
      cases hv
      rw [hH] at hW2
      exact kn 1509 _ rfl ad2 H1 locs1 ls _ _ he2 hW2 ⟨mjlr_ext hF.1 he2 hF.2.2, (fun v hv => by rw [List.mem_singleton.mp hv]; trivial), hF.2.2⟩ hS1 (by show c0 + (cells + 1) = X.2.2.2.2.1 + 1; omega) (by show s0 + (slots + 6) = X.2.2.2.2.2 + 6; omega)
    · simp only [wsV, List.mem_append, List.mem_cons, List.not_mem_nil, or_false] at hw
      rcases hw with (rfl | rfl | rfl | rfl) | rfl | hw
      · exact mjGA_X _ wx76
      · exact mjGA_X _ wx82
      · exact mjGA_X _ wx95
      · exact mjGA_X _ wx9
      · exact mjGA_C _ (List.mem_of_getElem? (i := 5) rfl)
      · exact hw
  · cases hres
def e1G (K : MK) (l : Launch) (F : MF) (r : Int32 × MH) : Prop := ∃ (I : Nat → Nat → Int32) (X : MX) (p q : Int32) (rr : Int64 ⊕ String) (b : Int64) (I3 : Nat → Nat → Int32), F.2.1 = [.ref 74, .int q, .int p, .ref 0] ∧ F.2.2 = mjH I X ∧ RI I X ∧ mjElC K l (mjH I X) p q rr ∧ elS I p q rr b I3 ∧ r = (elk rr, mjH I (elX X rr))
noncomputable def e1 (K : MK) (l : Launch) : MOp := fun _ F => @dite _ (∃ r, e1G K l F r) (Classical.propDecidable _) (fun h => some (.inl (1351, (F.1, [.int (Classical.choose h).1], (Classical.choose h).2)))) (fun _ => none)
theorem e1_at {K : MK} {l : Launch} {F : MF} {r : Int32 × MH} (h : e1G K l F r) : ∃ r, e1G K l F r ∧ ∀ call, e1 K l call F = some (.inl (1351, (F.1, [.int r.1], r.2))) := ⟨Classical.choose ⟨r, h⟩, Classical.choose_spec (⟨r, h⟩ : ∃ r, e1G K l F r), fun _ => dif_pos ⟨r, h⟩⟩
theorem e1_elm {K : MK} {l : Launch} (hl : l.stackTraces = false) : lElm (e1 K l) e2 := by
  intro d I X p q al i hR hN
  obtain ⟨rr0, b0, I30, hC0, hS0⟩ := c_elem (K := K) hl hR p q
  obtain ⟨r, hG, he⟩ := e1_at (K := K) (l := l) (F := (al, [.ref 74, .int q, .int p, .ref 0], mjH I X)) (r := (elk rr0, mjH I (elX X rr0))) ⟨I, X, p, q, rr0, b0, I30, rfl, rfl, hR, hC0, hS0, rfl⟩
  obtain ⟨I', X', p', q', rr, b, I3, es, eh, hR', hC', ⟨s1, s2, s3, s4, s5⟩, er⟩ := hG
  have epq : q = q' ∧ p = p' := by
    have es : [Value.ref 74, .int q, .int p, .ref 0] = [.ref 74, .int q', .int p', .ref 0] := es
    injection es with _ es
    injection es with e1 es
    injection es with e2 es
    injection e1 with e1
    injection e2 with e2
    exact ⟨e1, e2⟩
  obtain ⟨rfl, rfl⟩ := epq
  obtain ⟨n1, n2, n3⟩ := mjH_inj (show mjH I X = mjH I' X' from eh)
  have hn := elX_n (X := X') rr
  have hn1 : (elX X' rr).2.2.2.1 = X'.2.2.2.1 := congrArg (fun z => z.1) hn
  have hn2 : (elX X' rr).2.2.2.2.1 = X'.2.2.2.2.1 + 1 := congrArg (fun z => z.2.1) hn
  have hn3 : (elX X' rr).2.2.2.2.2 = X'.2.2.2.2.2 + 6 := congrArg (fun z => z.2.2) hn
  refine ⟨elk rr, b, I', elX X' rr, fun call => by rw [he call, er], I3, elX X' rr, s5 d _, hR'.eq (s4 _) (elX_xle rr), ?_, fun call => ?_⟩
  · show X.2.2.2.1 ≤ (elX X' rr).2.2.2.1 ∧ (elX X' rr).2.2.2.1 ≤ X.2.2.2.1 + 8 ∧ (elX X' rr).2.2.2.2.1 ≤ X.2.2.2.2.1 + 8 ∧ (elX X' rr).2.2.2.2.2 ≤ X.2.2.2.2.2 + 64
    omega
  · refine if_pos ⟨I3, elX X' rr, i, elk rr, b, rfl, s3, fun hk => ?_⟩
    cases rr with
    | inl b' =>
      rw [s2 b' rfl]
      rfl
    | inr E =>
      rcases s1 E rfl with rfl | rfl
      · exact absurd hk (by decide)
      · exact absurd hk (by decide)
theorem e1_mn {K : MK} {l : Launch} : mjMn (e1 K l) := fun _ _ _ _ _ h => h
theorem e1_ok {K : MK} {l : Launch} {d : Nat} {y : MethodName} : mjOkD K l mjGA mjM (d + 7) y "LookAtClockLaw" code 8 (some .boolean) 1348 (e1 K l) := by
  intro call hcall F res hres
  obtain ⟨al, st, h⟩ := F
  unfold e1 at hres
  split at hres
  · rename_i hG
    have sp := Classical.choose_spec hG
    generalize Classical.choose hG = r at hres sp
    obtain ⟨I, X, p9, q9, rr, b, I3, es, eh, hR, hC, hS9, er⟩ := sp
    have es : st = [.ref 74, .int q9, .int p9, .ref 0] := es
    have eh : h = mjH I X := eh
    subst es; subst eh; subst er
    cases hres
    have hn := elX_n (X := X) rr
    have hn1 : (elX X rr).2.2.2.1 = X.2.2.2.1 := congrArg (fun z => z.1) hn
    have hn2 : (elX X rr).2.2.2.2.1 = X.2.2.2.2.1 + 1 := congrArg (fun z => z.2.1) hn
    have hn3 : (elX X rr).2.2.2.2.2 = X.2.2.2.2.2 + 6 := congrArg (fun z => z.2.2) hn
    refine ⟨⟨by show X.2.2.2.1 + 75 ≤ (elX X rr).2.2.2.1 + 75; omega, by show X.2.2.2.2.1 ≤ (elX X rr).2.2.2.2.1; omega, by show X.2.2.2.2.2 ≤ (elX X rr).2.2.2.2.2; omega⟩, ?_⟩
    intro p e R s m args below meth c cx Q c0 s0 cells slots H locs ls ad hW hF hS h1 h2 h3 h4 kn kr
    have cx0 := cx
    obtain ⟨hx, hb, hml, hr, hts, hown, hlk, hnm, hen, hr1, hr2⟩ := cx0
    have h1 : c0 + cells = X.2.2.2.2.1 := h1
    have h2 : s0 + slots = X.2.2.2.2.2 := h2
    have h3 : (elX X rr).2.2.2.2.1 ≤ c0 + R.cells := h3
    have h4 : (elX X rr).2.2.2.2.2 ≤ s0 + R.slots := h4
    have hM := x_Lel (h := mjH I X) (by show 75 ≤ X.2.2.2.1 + 75; omega) rfl rfl hS9.1 hC ad
    rw [elh_eq] at hM
    have hrun := vx_runSX (e := e) (R := R) (below := below) (meth := meth) (H := H) (locs := locs) (cells := cells) (slots := slots) (As := [.ref (ad 0), .int p9, .int q9, .ref (ad 74)]) (rest := []) (g := F0 m 1348 ls [.ref (ad 74), .int q9, .int p9, .ref (ad 0)]) ⟨hx, hb, hml, hown, hts⟩ hM (vx_cwSW 4 hts (mj_gi mjGA_good (fun w hw => ?_)) rfl rfl rfl ⟨by decide, by decide, by decide +kernel⟩ (by show 20 + 6 + 1 ≤ R.frames ∧ 8 + (5 + 11) + (600 + 60 * 6) ≤ R.locals; omega)) ⟨mjPm_blind, mjPm_at hen hS hW⟩ rfl rfl hF.1.1 rfl (lv_room (by decide)) dL_law_1348 ⟨by omega, by omega⟩
    · refine mjx_after hrun hS (fun st v t hq => hq.2) (fun E st t hx => hx.elim) ?_ (fun E ce q st t H1 locs1 _ hx => hx.elim)
      intro v9 st9 t9 H1 locs1 hH hq hS1
      obtain ⟨⟨ad2, hv, he2, hW2, hs2⟩, hF2⟩ := hq
      cases hv
      rw [hH] at hW2
      exact kn 1351 _ rfl ad2 H1 locs1 ls _ _ he2 hW2 ⟨mjlr_ext hF.1 he2 hF.2.2, (fun v hv => by rw [List.mem_singleton.mp hv]; trivial), fun v hv => mjsc_mono (by show X.2.2.2.1 + 75 ≤ (elX X rr).2.2.2.1 + 75; omega) (hF.2.2 v hv)⟩ hS1 (by show c0 + (cells + 1) = (elX X rr).2.2.2.2.1; omega) (by show s0 + (slots + 6) = (elX X rr).2.2.2.2.2; omega)
    · simp only [va_wsS, List.mem_append, List.mem_cons, List.not_mem_nil, or_false] at hw
      rcases hw with (rfl | rfl | rfl) | rfl | hw
      · exact mjGA_X _ wx77
      · exact mjGA_X _ wx84
      · exact mjGA_X _ wx96
      · exact mjGA_C _ (List.mem_of_getElem? (i := 6) rfl)
      · exact hw
  · cases hres
