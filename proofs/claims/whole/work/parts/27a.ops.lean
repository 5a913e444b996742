/-! the law's three operations of its own -/
theorem mjlr_outL {z : Value} (hz : z.category = 1) {ad : Nat → Nat} {nL : Nat} {al : List (Option Value)} {ls ls' : Array Slot} {i : Nat} {w : Value} (h : mjlr z ad nL al ls) (hn : al[i]? = some none) (hn2 : al[i + 1]? = some none)
    (h' : lv_has ls' nL ((i, w) :: (mjasc z ad al).filter (fun q => !(q.1 == i) && (!(q.1 == i + 1) && !(q.1 + 1 == i && q.2.category == 2))))) : mjlr z ad nL al ls' := by
  refine ⟨h'.1, h.2.1, h'.2.1, fun j v hj => ?_⟩
  have e : j ≠ i := fun e => by rw [e, hn] at hj; cases hj
  have e2 : j ≠ i + 1 := fun e => by rw [e, hn2] at hj; cases hj
  have hw := (h.2.2.2 j v hj).2
  refine ⟨h'.2.2 (j, mjrn z ad v) (List.mem_cons_of_mem _ (List.mem_filter.mpr ⟨mjasc_in hj, ?_⟩)), hw⟩
  have h1 : (j == i) = false := by simpa using e
  have h2 : (j == i + 1) = false := by simpa using e2
  simp [mjrn_cat hz, hw, h1, h2]
theorem lg_cmp_self (b : Int64) : lg_cmp b b = 0 := by
  unfold lg_cmp
  simp
def e2G (F : MF) : Prop := ∃ (I : Nat → Nat → Int32) (X : MX) (i : Option Value) (k : Int32) (b : Int64), F = ([some (.ref 2000000), some (.ref 0), some (.ref 43), some (.ref 74), i, some (.int k), none, none], [.long b], mjH I X) ∧ I 43 40 = k ∧ (k = 0 → X.2.1 74 0 = b)
noncomputable def e2 : MOp := fun _ F => @ite _ (e2G F) (Classical.propDecidable _) (some (.inl (1524, (F.1, [], F.2.2)))) none
theorem e2_ok {K : MK} {l : Launch} {d : Nat} {y : MethodName} : mjOkD K l mjGA mjM (d + 1) y "LookAtClockLaw" code 8 (some .boolean) 1369 e2 := by
  intro call hcall F res hres
  unfold e2 at hres
  split at hres
  · rename_i hG
    obtain ⟨I, X, i, k, b, rfl, hk, hb0⟩ := hG
    cases hres
    refine ⟨mjmono.rf, ?_⟩
    intro p e R s m args below meth c cx Q c0 s0 cells slots H locs ls ad hW hF hS h1 h2 h3 h4 kn kr
    have cx0 := cx
    obtain ⟨hx, hb, hml, hr, hts, hown, hlk, hnm, hen, hr1, hr2⟩ := cx0
    have hz := hen.cat
    have h1 : c0 + cells = mjC (mjH I X) := h1
    have h2 : s0 + slots = mjS (mjH I X) := h2
    have h3 : mjC (mjH I X) ≤ c0 + R.cells := h3
    have h4 : mjS (mjH I X) ≤ s0 + R.slots := h4
    refine lv_lstore hx hb dL_law_1369 hF.1.has (by decide) rfl (fun ls1 hl1 => ?_)
    have hlr := mjlr_outL hz hF.1 rfl rfl hl1
    have g6 : ls1[6]? = some (.val (.long b)) := hl1.2.2 (6, .long b) List.mem_cons_self
    have g2 := (hlr.2.2.2 2 (.ref 43) rfl).1
    have g5 := (hlr.2.2.2 5 (.int k) rfl).1
    refine lv_aload_n hx hb dL_law_1371 rfl g2 ?_
    obtain ⟨hmn, hct⟩ := mj_sound K l (c_mThr d (I := I) (X := X))
    have hct := mjCt_mono mjGA_G hct ad (fun v hv => by rw [List.mem_singleton.mp hv]; exact Or.inl (by show 43 < X.2.2.2.1 + 75; omega)) (by decide) (fun v hv => by rw [List.mem_singleton.mp hv]; rfl)
    have hrun := va_runV (e := e) (R := R) (below := below) (meth := meth) (H := H) (locs := locs) (cells := cells) (slots := slots) (C := "LookAtClockModel") (As := []) (b := ad 43) (rest := []) (g := F0 m 1372 ls1 [.ref (ad 43)]) ⟨hx, hb, hml, hown, hts⟩ hct (cwV 0 hts (mj_gi mjGA_good (fun w hw => ?_)) rfl rfl rfl ⟨rfl, by decide, by decide, by decide +kernel⟩ (by show 20 + d + 1 ≤ R.frames ∧ 8 + (1 + 11) + (600 + 60 * d) ≤ R.locals; omega)) ⟨mjPm_blind, mj_recv hen hW (k := 43) (by show 43 < X.2.2.2.1 + 75; omega) rfl, mjPm_at hen hS hW⟩ rfl rfl hlr.1 rfl (lv_room (by decide)) dL_law_1372 ⟨by rw [Nat.sub_self]; omega, by rw [Nat.sub_self]; omega⟩
    · refine mj_after hrun hS (fun ad' H1 locs1 he hW1 hsc hS1 => ?_)
      show W p l e R s m args below meth c H1 locs1 _ _ Q (F0 m 1375 ls1 [.int (I 43 40)])
      have hlr1 := mjlr_ext hlr he hF.2.2
      have g3 := (hlr1.2.2.2 3 (.ref 74) rfl).1
      have fin : W p l e R s m args below meth c H1 locs1 (cells + (mjC (mjH I X) - mjC (mjH I X))) (slots + (mjS (mjH I X) - mjS (mjH I X))) Q (F0 m 1524 ls1 []) := kn 1524 _ rfl ad' H1 locs1 ls1 _ _ he hW1 ⟨hlr1, (fun v hv => by cases hv), hF.2.2⟩ hS1 (by show c0 + (cells + (mjC (mjH I X) - mjC (mjH I X))) = mjC (mjH I X); omega) (by show s0 + (slots + (mjS (mjH I X) - mjS (mjH I X))) = mjS (mjH I X); omega)
      refine lv_iload hx hb dL_law_1375 g5 ?_
      refine lv_icmp_eq hx hb dL_law_1377 rfl (fun q => ?_) (fun q => absurd hk q)
      refine lv_iload hx hb dL_law_1382 g5 ?_
      refine lv_if_ne hx hb dL_law_1384 rfl (fun q => lv_goto hx hb dL_law_1398 rfl fin) (fun q => ?_)
      have hk0 : k = 0 := by first | exact q | (simpa using q) | exact Classical.not_not.mp q
      refine lv_aload_n hx hb dL_law_1387 rfl g3 ?_
      refine lv_iconst hx hb dL_law_1388 kic_0 ?_
      have hat := (mjw_at (K := K) (ad := ad') (h := mjH I X) (k := 74) (by show 74 < X.2.2.2.1 + 75; omega)).trans (by rw [mjcel_l (by rfl)])
      refine va_lald (D := K.1) hx hb hen.1 hW1.1 74 3 hat rfl (by show vp_in 0 1; rintro (z | z) <;> exact absurd z (by decide)) dL_law_1389 ?_
      show W p l e R s m args below meth c H1 locs1 _ _ Q (F0 m 1390 ls1 [.long (X.2.1 74 0)])
      rw [hb0 hk0]
      refine lv_lload hx hb dL_law_1390 g6 ?_
      refine W.lcmp hx hb dL_law_1392 ?_
      show W p l e R s m args below meth c H1 locs1 _ _ Q (F0 m 1393 ls1 [.int (lg_cmp b b)])
      rw [lg_cmp_self]
      exact lv_if_eq hx hb dL_law_1393 rfl (fun q => lv_goto hx hb dL_law_1398 rfl fin) (fun q => absurd rfl q)
    · simp only [wsV, List.mem_append, List.mem_cons, List.not_mem_nil, or_false] at hw
      rcases hw with (rfl | rfl | rfl | rfl) | rfl | hw
      · exact mjGA_L _ wl290
      · exact mjGA_L _ wl291
      · exact mjGA_L _ wl292
      · exact mjGA_L _ wl8
      · exact mjGA_L _ wl289
      · exact hw
  · cases hres
theorem e2_mn : mjMn e2 := fun _ _ _ _ _ h => h
