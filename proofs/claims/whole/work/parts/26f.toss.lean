/-! toss: it calls what may throw, and catches -/
theorem x_fail9 {K : MK} {l : Launch} {ad : Nat → Nat} {a : Nat} {h : MH} (hka : a < mjN h) :
    vx_Met l yX9_fail (.code yX9_fail cX9_fail 1 none :: mjGA) (mjrm 3 1 6) (mjPm K ad h [.ref a]) (fun args st o t => True ∧ mjQm K ad h none h args st o t) (fun E st t => ¬ True ∧ mjQx K ad h "" (mjN h) E st t) 1 6 (mkA K) := by
  refine vx_ofW (cc := cX9_fail) (maxL := 1) (ret := none) (by decide +kernel) rfl ?_
  intro p e s m args below meth c s₁ B hml hno hv
  obtain ⟨rfl, hen, hW⟩ := hv
  obtain ⟨ls, e1, hFr⟩ := mjx_fr (K := K) (ad := ad) (h := h) (as := [.ref a]) (nL := 1) m hen.cat (fun v hv => by rw [List.mem_singleton.mp hv]; exact Or.inl hka) (by simp) (fun v hv => by rw [List.mem_singleton.mp hv]; rfl)
  rw [e1]
  have cx := mjx_cx B hml hen 3 (Nat.le_refl _) (Nat.le_refl _)
  have hx2 : mjXL qyX9_fail 1 3 0 (mjini 1 [.ref a], [], h) = some (.inl none, h) := rfl
  exact mjx_run mjGA_G (qkyX9_fail mjGA_good mjGA_X mjGA_lay) hx2 cx hW hFr va_S.rf (c0 := mjC h) (s0 := mjS h) rfl rfl (Nat.le_add_right _ _) (Nat.le_add_right _ _) (Nat.le_refl _) (Nat.le_refl _) fun ad' t he hw hs hF => ⟨trivial, ⟨ad', rfl, he, hw, hs⟩, hF⟩
/-- the call of fail, as toss makes it -/
def mjFl (K : MK) (l : Launch) (h : MH) (a : Nat) (Q0 : Prop) (E0 : String) : Prop := ∀ (ad : Nat → Nat) (p : Program) (e : Env) (R : Room) (s : State) (m : MethodId) (args : Array Value) (below : List Frame) (meth : Method) (c : Code) (H : Heap) (locs : List Loc) (ls : Array Slot), mjCx K mjGA (mjyn meth) "LookAtClock" cX11_toss 5 (some .int) 6 p R s m args meth c → mjWd K ad h H → va_S (mkA K) s.heap H locs → ls.size = 5 → 1 ≤ R.cells → 6 ≤ R.slots →
  vx_Run p l e R s m args below meth c H locs 0 0 1 6 (F0 m 20 ls [.ref (ad a)]) [] (fun st o t => Q0 ∧ mjQm K ad h none h #[.ref (ad a)] st o t) (fun E st t => (¬ Q0) ∧ mjQx K ad h E0 (mjN h) E st t) (mkA K)
theorem fl_4 {K : MK} {l : Launch} (hl : l.stackTraces = false) {a : Nat} {h : MH} {f : Int32} (hka : a < mjN h) (hc : (mjT h a).1 = 4) (hf : mjI h a 1 = f) : mjFl K l h a (f = 0) "java/lang/IllegalStateException" := by
  intro ad p e R s m args below meth c H locs ls cx hW hS hsz hR1 hR2
  have hk : (Nat.blt a (mjN h) && [0, 1, 2, 4, 5, 7, 8, 9].contains (mjT h a).1) = true := by
    rw [hc, (Nat.blt_eq).mpr hka]
    rfl
  obtain ⟨hx, hb, hml, hr, hts, hown, hlk, hnm, hen, hr1, hr2⟩ := cx
  refine vx_runV (C := "LookAtClock$Looker") (As := []) (b := ad a) (rest := []) (g := F0 m 20 ls [.ref (ad a)]) ⟨hx, hb, hml, hown, hts⟩ (x_fail4 hl hk hf) (cwV 0 hts (mj_gi mjGA_good (fun w hw => ?_)) rfl rfl rfl ⟨rfl, by decide, by decide, by decide +kernel⟩ (by show 20 + 3 + 1 ≤ R.frames ∧ 8 + (1 + 11) + (600 + 60 * 3) ≤ R.locals; omega)) ⟨mjPm_blind, mj_recv hen hW (k := a) hka (by rw [hc]; rfl), mjPm_at hen hS hW⟩ rfl rfl hsz rfl (lv_room (by decide)) dX11_toss_20 ⟨by omega, by omega⟩
  simp only [wsV, List.mem_append, List.mem_cons, List.not_mem_nil, or_false] at hw
  rcases hw with (rfl | rfl | rfl | rfl) | rfl | hw
  · exact mjGA_X _ wx74
  · exact mjGA_X _ wx79
  · exact mjGA_X _ wx89
  · exact mjGA_X _ wx29
  · exact mjGA_C _ (List.mem_of_getElem? (i := 1) rfl)
  · exact hw
theorem fl_1 {K : MK} {l : Launch} (hl : l.stackTraces = false) {a : Nat} {h : MH} {f : Int32} (hka : a < mjN h) (hc : (mjT h a).1 = 1) (hf : mjI h a 1 = f) : mjFl K l h a (f = 0) "java/lang/IllegalStateException" := by
  intro ad p e R s m args below meth c H locs ls cx hW hS hsz hR1 hR2
  have hk : (Nat.blt a (mjN h) && [0, 1, 2, 4, 5, 7, 8, 9].contains (mjT h a).1) = true := by
    rw [hc, (Nat.blt_eq).mpr hka]
    rfl
  obtain ⟨hx, hb, hml, hr, hts, hown, hlk, hnm, hen, hr1, hr2⟩ := cx
  refine vx_runU (C := "LookAtClock$Cheap") (As := []) (b := ad a) (rest := []) (g := F0 m 20 ls [.ref (ad a)]) ⟨hx, hb, hml, hown, hts⟩ (x_fail4 hl hk hf) (va_cwU (owner := "LookAtClock$Looker") (x := yX4_fail) 0 hts (mj_gi mjGA_good (fun w hw => ?_)) rfl rfl rfl rfl ⟨by decide, by decide, by decide +kernel⟩ (by show 20 + 3 + 1 ≤ R.frames ∧ 8 + (1 + 11) + (600 + 60 * 3) ≤ R.locals; omega)) ⟨mjPm_blind, mj_recv hen hW (k := a) hka (by rw [hc]; rfl), mjPm_at hen hS hW⟩ rfl rfl hsz rfl (lv_room (by decide)) dX11_toss_20 ⟨by omega, by omega⟩
  simp only [va_wsU, List.mem_append, List.mem_cons, List.not_mem_nil, or_false] at hw
  rcases hw with (rfl | rfl | rfl | rfl | rfl) | rfl | hw
  · exact mjGA_X _ wx74
  · exact mjGA_X _ wx85
  · exact mjGA_X _ wx87
  · exact mjGA_X _ wx79
  · exact mjGA_X _ wx29
  · exact mjGA_C _ (List.mem_of_getElem? (i := 1) rfl)
  · exact hw
theorem fl_2 {K : MK} {l : Launch} (hl : l.stackTraces = false) {a : Nat} {h : MH} {f : Int32} (hka : a < mjN h) (hc : (mjT h a).1 = 2) (hf : mjI h a 1 = f) : mjFl K l h a (f = 0) "java/lang/IllegalStateException" := by
  intro ad p e R s m args below meth c H locs ls cx hW hS hsz hR1 hR2
  have hk : (Nat.blt a (mjN h) && [0, 1, 2, 4, 5, 7, 8, 9].contains (mjT h a).1) = true := by
    rw [hc, (Nat.blt_eq).mpr hka]
    rfl
  obtain ⟨hx, hb, hml, hr, hts, hown, hlk, hnm, hen, hr1, hr2⟩ := cx
  refine vx_runU (C := "LookAtClock$Clock") (As := []) (b := ad a) (rest := []) (g := F0 m 20 ls [.ref (ad a)]) ⟨hx, hb, hml, hown, hts⟩ (x_fail4 hl hk hf) (va_cwU (owner := "LookAtClock$Looker") (x := yX4_fail) 0 hts (mj_gi mjGA_good (fun w hw => ?_)) rfl rfl rfl rfl ⟨by decide, by decide, by decide +kernel⟩ (by show 20 + 3 + 1 ≤ R.frames ∧ 8 + (1 + 11) + (600 + 60 * 3) ≤ R.locals; omega)) ⟨mjPm_blind, mj_recv hen hW (k := a) hka (by rw [hc]; rfl), mjPm_at hen hS hW⟩ rfl rfl hsz rfl (lv_room (by decide)) dX11_toss_20 ⟨by omega, by omega⟩
  simp only [va_wsU, List.mem_append, List.mem_cons, List.not_mem_nil, or_false] at hw
  rcases hw with (rfl | rfl | rfl | rfl | rfl) | rfl | hw
  · exact mjGA_X _ wx74
  · exact mjGA_X _ wx85
  · exact mjGA_X _ wx88
  · exact mjGA_X _ wx79
  · exact mjGA_X _ wx29
  · exact mjGA_C _ (List.mem_of_getElem? (i := 1) rfl)
  · exact hw
theorem fl_5 {K : MK} {l : Launch} (hl : l.stackTraces = false) {a : Nat} {h : MH} {f : Int32} (hka : a < mjN h) (hc : (mjT h a).1 = 5) (hf : mjI h a 1 = f) : mjFl K l h a (f = 0) "java/lang/IllegalStateException" := by
  intro ad p e R s m args below meth c H locs ls cx hW hS hsz hR1 hR2
  have hk : (Nat.blt a (mjN h) && [0, 1, 2, 4, 5, 7, 8, 9].contains (mjT h a).1) = true := by
    rw [hc, (Nat.blt_eq).mpr hka]
    rfl
  obtain ⟨hx, hb, hml, hr, hts, hown, hlk, hnm, hen, hr1, hr2⟩ := cx
  refine vx_runU (C := "LookAtClock$Never") (As := []) (b := ad a) (rest := []) (g := F0 m 20 ls [.ref (ad a)]) ⟨hx, hb, hml, hown, hts⟩ (x_fail4 hl hk hf) (va_cwU (owner := "LookAtClock$Looker") (x := yX4_fail) 0 hts (mj_gi mjGA_good (fun w hw => ?_)) rfl rfl rfl rfl ⟨by decide, by decide, by decide +kernel⟩ (by show 20 + 3 + 1 ≤ R.frames ∧ 8 + (1 + 11) + (600 + 60 * 3) ≤ R.locals; omega)) ⟨mjPm_blind, mj_recv hen hW (k := a) hka (by rw [hc]; rfl), mjPm_at hen hS hW⟩ rfl rfl hsz rfl (lv_room (by decide)) dX11_toss_20 ⟨by omega, by omega⟩
  simp only [va_wsU, List.mem_append, List.mem_cons, List.not_mem_nil, or_false] at hw
  rcases hw with (rfl | rfl | rfl | rfl | rfl) | rfl | hw
  · exact mjGA_X _ wx74
  · exact mjGA_X _ wx85
  · exact mjGA_X _ wx90
  · exact mjGA_X _ wx79
  · exact mjGA_X _ wx29
  · exact mjGA_C _ (List.mem_of_getElem? (i := 1) rfl)
  · exact hw
theorem fl_8 {K : MK} {l : Launch} (hl : l.stackTraces = false) {a : Nat} {h : MH} {f : Int32} (hka : a < mjN h) (hc : (mjT h a).1 = 8) (hf : mjI h a 1 = f) : mjFl K l h a (f = 0) "java/lang/IllegalStateException" := by
  intro ad p e R s m args below meth c H locs ls cx hW hS hsz hR1 hR2
  have hk : (Nat.blt a (mjN h) && [0, 1, 2, 4, 5, 7, 8, 9].contains (mjT h a).1) = true := by
    rw [hc, (Nat.blt_eq).mpr hka]
    rfl
  obtain ⟨hx, hb, hml, hr, hts, hown, hlk, hnm, hen, hr1, hr2⟩ := cx
  refine vx_runU (C := "LookAtClock$Share") (As := []) (b := ad a) (rest := []) (g := F0 m 20 ls [.ref (ad a)]) ⟨hx, hb, hml, hown, hts⟩ (x_fail4 hl hk hf) (va_cwU (owner := "LookAtClock$Looker") (x := yX4_fail) 0 hts (mj_gi mjGA_good (fun w hw => ?_)) rfl rfl rfl rfl ⟨by decide, by decide, by decide +kernel⟩ (by show 20 + 3 + 1 ≤ R.frames ∧ 8 + (1 + 11) + (600 + 60 * 3) ≤ R.locals; omega)) ⟨mjPm_blind, mj_recv hen hW (k := a) hka (by rw [hc]; rfl), mjPm_at hen hS hW⟩ rfl rfl hsz rfl (lv_room (by decide)) dX11_toss_20 ⟨by omega, by omega⟩
  simp only [va_wsU, List.mem_append, List.mem_cons, List.not_mem_nil, or_false] at hw
  rcases hw with (rfl | rfl | rfl | rfl | rfl) | rfl | hw
  · exact mjGA_X _ wx74
  · exact mjGA_X _ wx85
  · exact mjGA_X _ wx92
  · exact mjGA_X _ wx79
  · exact mjGA_X _ wx29
  · exact mjGA_C _ (List.mem_of_getElem? (i := 1) rfl)
  · exact hw
theorem fl_0 {K : MK} {l : Launch} (hl : l.stackTraces = false) {a : Nat} {h : MH} {f : Int32} (hka : a < mjN h) (hc : (mjT h a).1 = 0) (hf : mjI h a 1 = f) : mjFl K l h a (f = 0) "java/lang/UnsupportedOperationException" := by
  intro ad p e R s m args below meth c H locs ls cx hW hS hsz hR1 hR2
  have hk : (Nat.blt a (mjN h) && [0, 1, 2, 4, 5, 7, 8, 9].contains (mjT h a).1) = true := by
    rw [hc, (Nat.blt_eq).mpr hka]
    rfl
  obtain ⟨hx, hb, hml, hr, hts, hown, hlk, hnm, hen, hr1, hr2⟩ := cx
  refine vx_runU (C := "LookAtClock$Best") (As := []) (b := ad a) (rest := []) (g := F0 m 20 ls [.ref (ad a)]) ⟨hx, hb, hml, hown, hts⟩ (x_fail0 hl hk hf) (va_cwO (owner := "LookAtClock$Looker") (x := yX4_fail) 0 hts (mj_gi mjGA_good (fun w hw => ?_)) rfl rfl rfl (b0 := cX4_fail) (m0 := 1) (r0 := none) (List.mem_cons_of_mem _ (mjGA_C _ (List.mem_of_getElem? (i := 1) rfl))) ⟨by decide, by decide, by decide +kernel⟩ (by show 20 + 3 + 1 ≤ R.frames ∧ 8 + (1 + 11) + (600 + 60 * 3) ≤ R.locals; omega)) ⟨mjPm_blind, mj_recv hen hW (k := a) hka (by rw [hc]; rfl), mjPm_at hen hS hW⟩ rfl rfl hsz rfl (lv_room (by decide)) dX11_toss_20 ⟨by omega, by omega⟩
  simp only [va_wsO, List.mem_append, List.mem_cons, List.not_mem_nil, or_false] at hw
  rcases hw with (rfl | rfl | rfl | rfl | rfl | rfl) | rfl | hw
  · exact mjGA_X _ wx74
  · exact mjGA_X _ wx85
  · exact mjGA_X _ wx79
  · exact mjGA_X _ wx86
  · exact mjGA_X _ wx78
  · exact mjGA_X _ wx19
  · exact mjGA_C _ (List.mem_of_getElem? (i := 0) rfl)
  · exact hw
theorem fl_7 {K : MK} {l : Launch} (hl : l.stackTraces = false) {a : Nat} {h : MH} {f : Int32} (hka : a < mjN h) (hc : (mjT h a).1 = 7) (hf : mjI h a 1 = f) : mjFl K l h a (f = 0) "java/lang/IllegalArgumentException" := by
  intro ad p e R s m args below meth c H locs ls cx hW hS hsz hR1 hR2
  have hk : (Nat.blt a (mjN h) && [0, 1, 2, 4, 5, 7, 8, 9].contains (mjT h a).1) = true := by
    rw [hc, (Nat.blt_eq).mpr hka]
    rfl
  obtain ⟨hx, hb, hml, hr, hts, hown, hlk, hnm, hen, hr1, hr2⟩ := cx
  refine vx_runU (C := "LookAtClock$Seller") (As := []) (b := ad a) (rest := []) (g := F0 m 20 ls [.ref (ad a)]) ⟨hx, hb, hml, hown, hts⟩ (x_fail7 hl hk hf) (va_cwO (owner := "LookAtClock$Looker") (x := yX4_fail) 0 hts (mj_gi mjGA_good (fun w hw => ?_)) rfl rfl rfl (b0 := cX4_fail) (m0 := 1) (r0 := none) (List.mem_cons_of_mem _ (mjGA_C _ (List.mem_of_getElem? (i := 1) rfl))) ⟨by decide, by decide, by decide +kernel⟩ (by show 20 + 3 + 1 ≤ R.frames ∧ 8 + (1 + 11) + (600 + 60 * 3) ≤ R.locals; omega)) ⟨mjPm_blind, mj_recv hen hW (k := a) hka (by rw [hc]; rfl), mjPm_at hen hS hW⟩ rfl rfl hsz rfl (lv_room (by decide)) dX11_toss_20 ⟨by omega, by omega⟩
  simp only [va_wsO, List.mem_append, List.mem_cons, List.not_mem_nil, or_false] at hw
  rcases hw with (rfl | rfl | rfl | rfl | rfl | rfl) | rfl | hw
  · exact mjGA_X _ wx74
  · exact mjGA_X _ wx85
  · exact mjGA_X _ wx79
  · exact mjGA_X _ wx91
  · exact mjGA_X _ wx80
  · exact mjGA_X _ wx37
  · exact mjGA_C _ (List.mem_of_getElem? (i := 2) rfl)
  · exact hw
theorem fl_9 {K : MK} {l : Launch} (hl : l.stackTraces = false) {a : Nat} {h : MH} {f : Int32} (hka : a < mjN h) (hc : (mjT h a).1 = 9) (hf : mjI h a 1 = f) : mjFl K l h a (True) "" := by
  intro ad p e R s m args below meth c H locs ls cx hW hS hsz hR1 hR2
  have hk : (Nat.blt a (mjN h) && [0, 1, 2, 4, 5, 7, 8, 9].contains (mjT h a).1) = true := by
    rw [hc, (Nat.blt_eq).mpr hka]
    rfl
  obtain ⟨hx, hb, hml, hr, hts, hown, hlk, hnm, hen, hr1, hr2⟩ := cx
  refine vx_runU (C := "LookAtClock$Told") (As := []) (b := ad a) (rest := []) (g := F0 m 20 ls [.ref (ad a)]) ⟨hx, hb, hml, hown, hts⟩ (x_fail9 hka) (va_cwO (owner := "LookAtClock$Looker") (x := yX4_fail) 0 hts (mj_gi mjGA_good (fun w hw => ?_)) rfl rfl rfl (b0 := cX4_fail) (m0 := 1) (r0 := none) (List.mem_cons_of_mem _ (mjGA_C _ (List.mem_of_getElem? (i := 1) rfl))) ⟨by decide, by decide, by decide +kernel⟩ (by show 20 + 3 + 1 ≤ R.frames ∧ 8 + (1 + 11) + (600 + 60 * 3) ≤ R.locals; omega)) ⟨mjPm_blind, mj_recv hen hW (k := a) hka (by rw [hc]; rfl), mjPm_at hen hS hW⟩ rfl rfl hsz rfl (lv_room (by decide)) dX11_toss_20 ⟨by omega, by omega⟩
  simp only [va_wsO, List.mem_append, List.mem_cons, List.not_mem_nil, or_false] at hw
  rcases hw with (rfl | rfl | rfl | rfl | rfl | rfl) | rfl | hw
  · exact mjGA_X _ wx74
  · exact mjGA_X _ wx85
  · exact mjGA_X _ wx79
  · exact mjGA_X _ wx93
  · exact mjGA_X _ wx81
  · exact mjGA_X _ wx45
  · exact mjGA_C _ (List.mem_of_getElem? (i := 3) rfl)
  · exact hw
def mjTsC (K : MK) (l : Launch) (h : MH) (q v : Int32) : Prop := ∀ ad : Nat → Nat, vx_Met l yX11_toss (.codeWith yX11_toss cX11_toss 5 (some .int) [(19, 23, 26, 290), (19, 23, 36, 248), (19, 23, 47, 258)] :: mjGA) (mjrm 6 1 6) (mjPm K ad h [.ref 0, .int q]) (mjQm K ad h (some (.int v)) (mjBp h)) (fun _ _ _ => False) 1 6 (mkA K)
theorem x_tsR {K : MK} {l : Launch} {h : MH} {q v : Int32} (h0 : 75 ≤ mjN h) (g : mjGoL qyX11_toss 6 0 (mjini 5 [.ref 0, .int q], [], h) (fun x => x = (.inl (some (.int v)), h))) : mjTsC K l h q v := by
  intro ad
  refine vx_ofWH (cc := cX11_toss) (maxL := 5) (ret := some .int) (by decide +kernel) rfl ?_
  intro p9 e s m args below meth c s₁ B hml hv
  obtain ⟨rfl, hen, hW⟩ := hv
  obtain ⟨ls, e1, hFr⟩ := mjx_fr (K := K) (ad := ad) (h := h) (as := [.ref 0, .int q]) (nL := 5) m hen.cat (fun v hv => by
    rcases List.mem_cons.mp hv with e | hv
    · rw [e]; exact Or.inl (by show 0 < mjN h; omega)
    · rw [List.mem_singleton.mp hv]; trivial) (by simp) (fun v hv => by
    rcases List.mem_cons.mp hv with e | hv
    · rw [e]; rfl
    · rw [List.mem_singleton.mp hv]; rfl)
  rw [e1]
  have cx := mjx_cx B hml hen 6 (Nat.le_refl _) (Nat.le_refl _)
  obtain ⟨n, x, hn, rfl⟩ := g
  exact mjx_run mjGA_G (qkyX11_toss mjGA_good mjGA_X mjGA_lay) hn cx hW hFr va_S.rf (c0 := mjC h) (s0 := mjS h) rfl rfl (Nat.le_add_right _ _) (Nat.le_add_right _ _) (Nat.le_refl _) (Nat.le_refl _) fun ad' t he hw hs hF => ⟨⟨ad', rfl, he, mjBp_Wd hw, hs⟩, hF⟩
theorem x_tsF {K : MK} {l : Launch} {h : MH} {q v : Int32} {a : Nat} {Q0 : Prop} {E0 : String} (h0 : 75 ≤ mjN h) (hka : a < mjN h) (hFl : mjFl K l h a Q0 E0)
    (g : mjGoS qyX11_toss 6 0 (mjini 5 [.ref 0, .int q], [], h) (fun x => x = (20, ([some (.ref 0), some (.int q), some (.int 0), some (.ref a), none], [.ref a], h)))) (hr : Q0 → v = -15)
    (hx : ¬ Q0 → (E0 = "java/lang/UnsupportedOperationException" ∧ mjGoL qyX11_toss 6 28 ([some (.ref 0), some (.int q), some (.int 0), some (.ref a), none], [], mjBp h) (fun x => x = (.inl (some (.int v)), mjBp h))) ∨ (E0 = "java/lang/IllegalArgumentException" ∧ mjGoL qyX11_toss 6 38 ([some (.ref 0), some (.int q), some (.int 0), some (.ref a), none], [], mjBp h) (fun x => x = (.inl (some (.int v)), mjBp h))) ∨ (E0 = "java/lang/IllegalStateException" ∧ mjGoL qyX11_toss 6 49 ([some (.ref 0), some (.int q), some (.int 0), some (.ref a), none], [], mjBp h) (fun x => x = (.inl (some (.int v)), mjBp h)))) : mjTsC K l h q v := by
  intro ad
  refine vx_ofWH (cc := cX11_toss) (maxL := 5) (ret := some .int) (by decide +kernel) rfl ?_
  intro p9 e s m args below meth c s₁ B hml hv
  obtain ⟨rfl, hen, hW⟩ := hv
  have hz := hen.cat
  have htab : c.exceptionTable.toList = tableOf [(19, 23, 26, 290), (19, 23, 36, 248), (19, 23, 47, 258)] := vx_table (x := yX11_toss) B (atoms_spec (ws := _ :: mjGA) B.pre _ List.mem_cons_self)
  obtain ⟨ls, e1, hFr⟩ := mjx_fr (K := K) (ad := ad) (h := h) (as := [.ref 0, .int q]) (nL := 5) m hz (fun v hv => by
    rcases List.mem_cons.mp hv with e | hv
    · rw [e]; exact Or.inl (by show 0 < mjN h; omega)
    · rw [List.mem_singleton.mp hv]; trivial) (by simp) (fun v hv => by
    rcases List.mem_cons.mp hv with e | hv
    · rw [e]; rfl
    · rw [List.mem_singleton.mp hv]; rfl)
  rw [e1]
  have cx := mjx_cx B hml hen 6 (Nat.le_refl _) (Nat.le_refl _)
  obtain ⟨N, n, x, hn, rfl⟩ := g
  refine (mj_part (mjcl_ok mjGA_G N 6) (qkyX11_toss mjGA_good mjGA_X mjGA_lay) n 0 _ 20 _ hn).2 p9 e _ s m _ below meth c cx _ (mjC h) (mjS h) 0 0 s.heap [] ls ad hW hFr va_S.rf rfl rfl (Nat.le_add_right _ _) (Nat.le_add_right _ _) ?_
  intro ad' H' locs' ls' cells' slots' he hW' hF' hS' h1 h2
  have h1 : mjC h + cells' = mjC h := h1
  have h2 : mjS h + slots' = mjS h := h2
  have hc0 : cells' = 0 := by omega
  have hs0 : slots' = 0 := by omega
  subst hc0; subst hs0
  have hts : ∀ w ∈ (mjcw (mjyn meth) cX11_toss 5 (some .int) :: mjGA), w.before (List.map (mjrn (mkZ K) ad) [Value.ref 0, .int q]).toArray s = true := cx.2.2.2.2.1
  refine mjx_after (hFl ad' p9 e _ s m _ below meth c H' locs' ls' cx hW' hS' hF'.1.1 (by decide) (by decide)) hS' (fun st v t hq => hq.2.2) (fun E st t hx => hx.2.2.2) ?_ ?_
  · intro v9 st t H1 locs1 hH hq hS1
    obtain ⟨hQ, ⟨ad2, hv, he2, hW2, hs2⟩, hF2⟩ := hq
    cases hv
    rw [hH] at hW2
    have hv15 := hr hQ
    subst hv15
    have hx23 : mjXL qyX11_toss 3 6 23 ([some (.ref 0), some (.int q), some (.int 0), some (.ref a), none], [], mjBp h) = some (.inl (some (.int (-15))), mjBp h) := rfl
    exact mjx_run (Qc := mjQm K ad h (some (.int (-15))) (mjBp h)) mjGA_G (qkyX11_toss mjGA_good mjGA_X mjGA_lay) hx23 cx (mjBp_Wd hW2) ⟨mjlr_ext hF'.1 he2 hF'.2.2, (fun v hv => by cases hv), hF'.2.2⟩ hS1 (c0 := mjC h) (s0 := mjS h) (cells := 0 + 1) (slots := 0 + 6) rfl rfl (Nat.le_refl _) (Nat.le_refl _) (Nat.le_refl _) (Nat.le_refl _) fun ad3 t3 he3 hw3 hs3 hF3 => ⟨⟨ad3, rfl, (he.trans he2 (Nat.le_refl _)).trans he3 (Nat.le_refl _), hw3, hs3⟩, hF3⟩
  · intro E ce q9 st t H1 locs1 hH hx9 hS1 hce hcv hcl
    obtain ⟨hQ, rfl, ⟨ad2, he2, hW2⟩, hF2⟩ := hx9
    rw [hH] at hW2
    have hFb : ∀ ls2, mjlr (mkZ K) ad2 5 [some (.ref 0), some (.int q), some (.int 0), some (.ref a), none] ls2 → mjFr K ad2 5 ([some (.ref 0), some (.int q), some (.int 0), some (.ref a), none], [], mjBp h) ls2 := fun ls2 hl2 => ⟨hl2, fun v hv => (by cases hv), hF'.2.2⟩
    have hlr := mjlr_ext hF'.1 he2 hF'.2.2
    obtain ⟨-, -, z4, z5, z6, z7, -⟩ := hen.2.2.2.2.2.1.2.2.2.2.2
    rcases hx hQ with ⟨rfl, g9⟩ | ⟨rfl, g9⟩ | ⟨rfl, g9⟩
    · refine vx_catch (findClass_of_methodNamed B.named) [] ⟨19, 23, 26, 290⟩ [⟨19, 23, 36, 248⟩, ⟨19, 23, 47, 258⟩] (htab.trans rfl) (fun z hz => by cases hz) rfl (by decide) (name := "java/lang/UnsupportedOperationException") (hts _ (List.mem_cons_of_mem _ (mjGA_X _ wx71))) (va_Nw.use rfl (z7 _ (by decide))) hce hcv hcl ?_
      refine lv_astore B.exec B.bytes dX11_toss_26 hlr.has (by decide) rfl (fun ls2 hl2 => ?_)
      obtain ⟨n9, x9, hn9, rfl⟩ := g9
      exact mjx_run (Qc := mjQm K ad h (some (.int v)) (mjBp h)) mjGA_G (qkyX11_toss mjGA_good mjGA_X mjGA_lay) hn9 cx (mjBp_Wd hW2) (hFb _ (mjlr_out hz hlr rfl hl2)) hS1 (c0 := mjC h) (s0 := mjS h) (cells := 0 + 1) (slots := 0 + 6) rfl rfl (Nat.le_refl _) (Nat.le_refl _) (Nat.le_refl _) (Nat.le_refl _) fun ad3 t3 he3 hw3 hs3 hF3 => ⟨⟨ad3, rfl, (he.trans he2 (Nat.le_refl _)).trans he3 (Nat.le_refl _), hw3, hs3⟩, hF3⟩
    · refine vx_catch (findClass_of_methodNamed B.named) [⟨19, 23, 26, 290⟩] ⟨19, 23, 36, 248⟩ [⟨19, 23, 47, 258⟩] (htab.trans rfl) (fun z hz => by
          rw [List.mem_singleton.mp hz]
          exact Or.inr ⟨by decide, "java/lang/UnsupportedOperationException", hts _ (List.mem_cons_of_mem _ (mjGA_X _ wx71)), z5⟩) rfl (by decide) (name := "java/lang/IllegalArgumentException") (hts _ (List.mem_cons_of_mem _ (mjGA_X _ wx69))) (va_Nw.use rfl (z7 _ (by decide))) hce hcv hcl ?_
      refine lv_astore B.exec B.bytes dX11_toss_36 hlr.has (by decide) rfl (fun ls2 hl2 => ?_)
      obtain ⟨n9, x9, hn9, rfl⟩ := g9
      exact mjx_run (Qc := mjQm K ad h (some (.int v)) (mjBp h)) mjGA_G (qkyX11_toss mjGA_good mjGA_X mjGA_lay) hn9 cx (mjBp_Wd hW2) (hFb _ (mjlr_out hz hlr rfl hl2)) hS1 (c0 := mjC h) (s0 := mjS h) (cells := 0 + 1) (slots := 0 + 6) rfl rfl (Nat.le_refl _) (Nat.le_refl _) (Nat.le_refl _) (Nat.le_refl _) fun ad3 t3 he3 hw3 hs3 hF3 => ⟨⟨ad3, rfl, (he.trans he2 (Nat.le_refl _)).trans he3 (Nat.le_refl _), hw3, hs3⟩, hF3⟩
    · refine vx_catch (findClass_of_methodNamed B.named) [⟨19, 23, 26, 290⟩, ⟨19, 23, 36, 248⟩] ⟨19, 23, 47, 258⟩ [] (htab.trans rfl) (fun z hz => by
          rcases List.mem_cons.mp hz with e | hz
          · rw [e]
            exact Or.inr ⟨by decide, "java/lang/UnsupportedOperationException", hts _ (List.mem_cons_of_mem _ (mjGA_X _ wx71)), z4⟩
          · rw [List.mem_singleton.mp hz]
            exact Or.inr ⟨by decide, "java/lang/IllegalArgumentException", hts _ (List.mem_cons_of_mem _ (mjGA_X _ wx69)), z6⟩) rfl (by decide) (name := "java/lang/IllegalStateException") (hts _ (List.mem_cons_of_mem _ (mjGA_X _ wx70))) (va_Nw.use rfl (z7 _ (by decide))) hce hcv hcl ?_
      refine lv_astore B.exec B.bytes dX11_toss_47 hlr.has (by decide) rfl (fun ls2 hl2 => ?_)
      obtain ⟨n9, x9, hn9, rfl⟩ := g9
      exact mjx_run (Qc := mjQm K ad h (some (.int v)) (mjBp h)) mjGA_G (qkyX11_toss mjGA_good mjGA_X mjGA_lay) hn9 cx (mjBp_Wd hW2) (hFb _ (mjlr_out hz hlr rfl hl2)) hS1 (c0 := mjC h) (s0 := mjS h) (cells := 0 + 1) (slots := 0 + 6) rfl rfl (Nat.le_refl _) (Nat.le_refl _) (Nat.le_refl _) (Nat.le_refl _) fun ad3 t3 he3 hw3 hs3 hF3 => ⟨⟨ad3, rfl, (he.trans he2 (Nat.le_refl _)).trans he3 (Nat.le_refl _), hw3, hs3⟩, hF3⟩
