/-! the law's element: it catches -/
theorem mjlr_out {z : Value} (hz : z.category = 1) {ad : Nat → Nat} {nL : Nat} {al : List (Option Value)} {ls ls' : Array Slot} {i : Nat} {w : Value} (h : mjlr z ad nL al ls) (hn : al[i]? = some none)
    (h' : lv_has ls' nL ((i, w) :: (mjasc z ad al).filter (fun q => !(q.1 == i) && !(q.1 + 1 == i && q.2.category == 2)))) : mjlr z ad nL al ls' := by
  refine ⟨h'.1, h.2.1, h'.2.1, fun j v hj => ?_⟩
  have e : j ≠ i := fun e => by rw [e, hn] at hj; cases hj
  have hw := (h.2.2.2 j v hj).2
  refine ⟨h'.2.2 (j, mjrn z ad v) (List.mem_cons_of_mem _ (List.mem_filter.mpr ⟨mjasc_in hj, ?_⟩)), hw⟩
  have h1 : (j == i) = false := by simpa using e
  simp [mjrn_cat hz, hw, h1]
/-- one cell more that no place names -/
def mjBp (h : MH) : MH := (h.1, h.2.1, h.2.2.1, h.2.2.2.1, h.2.2.2.2.1, h.2.2.2.2.2.1 + 1, h.2.2.2.2.2.2 + 6)
theorem mjBp_Wd {K : MK} {ad : Nat → Nat} {h : MH} {H : Heap} (hW : mjWd K ad h H) : mjWd K ad (mjBp h) H := hW
theorem mjx_after {p : Program} {l : Launch} {e : Env} {R : Room} {s : State} {m : MethodId} {args : Array Value} {below : List Frame} {meth : Method} {c : Code} {H : Heap} {locs : List Loc} {cells slots mc ms : Nat} {Q : State → Prop} {pc : Nat} {ls : Array Slot} {st0 rest : List Value} {A : Nat → Prop} {Qa : State → Outcome → State → Prop} {XC : String → State → State → Prop}
    (hr : vx_Run p l e R s m args below meth c H locs cells slots mc ms (F0 m pc ls st0) rest Qa XC A) (hS : va_S A s.heap H locs) (hqF : ∀ st v t, Qa st (.returned v) t → va_F A st t) (hxF : ∀ E st t, XC E st t → va_F A st t)
    (kk : ∀ (v : Option Value) (st t : State) (H1 : Heap) (locs1 : List Loc), t.heap = H1 → Qa st (.returned v) t → va_S A s.heap H1 locs1 → W p l e R s m args below meth c H1 locs1 (cells + mc) (slots + ms) Q (F0 m (pc + 3) ls (v.toList ++ rest)))
    (kx : ∀ (E : String) (ce : Cell) (q : Addr) (st t : State) (H1 : Heap) (locs1 : List Loc), t.heap = H1 → XC E st t → va_S A s.heap H1 locs1 → H1[q]? = some ce → ce.vm = .none → s.vm.findClass E = some ce.cls → vx_W p l e R s m args below meth c H1 locs1 (cells + mc) (slots + ms) Q (F0 m pc ls rest) q) : W p l e R s m args below meth c H locs cells slots Q (F0 m pc ls st0) := by
  intro T hT X
  rcases hr T hT X with ⟨v, st₀, t, T', L, h0, X', hL, e1, e2, hq, st⟩ | ⟨q, st₀, t, T', L, E, ce, h0, X', hL, e1, e2, hx, hce, hcv, hcl, st⟩
  · obtain ⟨-, -, k3⟩ := vx_keep h0 e1 hS (fun _ _ h => h) (fun _ h => h) hL (hqF _ _ _ hq)
    obtain ⟨t2, a1, b1⟩ := kk v st₀ t T'.heap (locs ++ L) e1.symm hq k3 T' rfl X'
    exact ⟨t2, st t2 a1, b1⟩
  · obtain ⟨-, -, k3⟩ := vx_keep h0 e1 hS (fun _ _ h => h) (fun _ h => h) hL (hxF _ _ _ hx)
    obtain ⟨t2, a1, b1⟩ := kx E ce q st₀ t T'.heap (locs ++ L) e1.symm hx k3 (by rw [e1]; exact hce) hcv hcl T' rfl X'
    exact ⟨t2, st.trans a1, b1⟩
def elk : Int64 ⊕ String → Int32
  | .inl _ => 0
  | .inr E => if E = "java/lang/IllegalArgumentException" then 1 else 2
def elh (h : MH) : Int64 ⊕ String → MH
  | .inl b => mjsL h 74 0 b
  | .inr _ => h
theorem x_Lel {K : MK} {l : Launch} {h : MH} {p q : Int32} {r : Int64 ⊕ String} (h0 : 75 ≤ mjN h) (hC : (mjT h 0).1 = 11) (hT : mjT h 74 = (16, 1)) (hr : ∀ E, r = .inr E → E = "java/lang/IllegalArgumentException" ∨ E = "java/lang/IllegalStateException") (hEl : mjElC K l h p q r) (ad : Nat → Nat) :
    vx_Met l yL_element (.codeWith yL_element cL_element 5 (some .int) [(0, 9, 12, 13), (0, 9, 16, 15)] :: mjGA) (mjrm 6 1 6) (mjPm K ad h [.ref 0, .int p, .int q, .ref 74]) (mjQm K ad h (some (.int (elk r))) (elh (mjBp h) r)) (fun _ _ _ => False) 1 6 (mkA K) := by
  refine vx_ofWH (cc := cL_element) (maxL := 5) (ret := some .int) (by decide +kernel) rfl ?_
  intro p9 e s m args below meth c s₁ B hml hv
  obtain ⟨rfl, hen, hW⟩ := hv
  have hz := hen.cat
  have htab : c.exceptionTable.toList = tableOf [(0, 9, 12, 13), (0, 9, 16, 15)] := vx_table (x := yL_element) B (atoms_spec (ws := _ :: mjGA) B.pre _ List.mem_cons_self)
  obtain ⟨ls, e1, hFr⟩ := mjx_fr (K := K) (ad := ad) (h := h) (as := [.ref 0, .int p, .int q, .ref 74]) (nL := 5) m hz (fun v hv => by
    rcases List.mem_cons.mp hv with e | hv
    · rw [e]; exact Or.inl (by show 0 < mjN h; omega)
    rcases List.mem_cons.mp hv with e | hv
    · rw [e]; trivial
    rcases List.mem_cons.mp hv with e | hv
    · rw [e]; trivial
    · rw [List.mem_singleton.mp hv]; exact Or.inl (by show 74 < mjN h; omega)) (by simp) (fun v hv => by
    rcases List.mem_cons.mp hv with e | hv
    · rw [e]; rfl
    rcases List.mem_cons.mp hv with e | hv
    · rw [e]; rfl
    rcases List.mem_cons.mp hv with e | hv
    · rw [e]; rfl
    · rw [List.mem_singleton.mp hv]; rfl)
  rw [e1]
  have cx := mjx_cx B hml hen 6 (Nat.le_refl _) (Nat.le_refl _)
  have hx5 : mjXS qyL_element (mjcl 0 6) 5 0 (mjini 5 [.ref 0, .int p, .int q, .ref 74], [], h) = some (5, (mjini 5 [.ref 0, .int p, .int q, .ref 74], [.int q, .int p, .ref 0, .int 0, .ref 74], h)) := rfl
  refine (mj_part (mjcl_ok mjGA_G 0 6) (qkyL_element mjGA_good mjGA_X mjGA_lay) 5 0 _ 5 _ hx5).2 p9 e _ s m _ below meth c cx _ (mjC h) (mjS h) 0 0 s.heap [] ls ad hW hFr va_S.rf rfl rfl (Nat.le_add_right _ _) (Nat.le_add_right _ _) ?_
  intro ad' H' locs' ls' cells' slots' he hW' hF' hS' h1 h2
  have h1 : mjC h + cells' = mjC h := h1
  have h2 : mjS h + slots' = mjS h := h2
  have hc0 : cells' = 0 := by omega
  have hs0 : slots' = 0 := by omega
  subst hc0; subst hs0
  have hen2 := hen
  have hts : ∀ w ∈ (mjcw (mjyn meth) cL_element 5 (some .int) :: mjGA), w.before (List.map (mjrn (mkZ K) ad) [Value.ref 0, .int p, .int q, .ref 74]).toArray s = true := cx.2.2.2.2.1
  have hrun := vx_runV (R := mjrm 6 1 6) (H := H') (locs := locs') (cells := 0) (slots := 0) (e := e) (below := below) (meth := meth) (C := "LookAtClock") (As := [.int p, .int q]) (b := ad' 0) (rest := [.int 0, .ref (ad' 74)]) (g := F0 m 5 ls' [.int q, .int p, .ref (ad' 0), .int 0, .ref (ad' 74)]) ⟨B.exec, B.bytes, hml, findClass_of_methodNamed B.named, hts⟩ (hEl ad') (cwV 2 hts (mj_gi mjGA_good (fun w hw => ?_)) rfl rfl rfl ⟨rfl, by decide, by decide, by decide +kernel⟩ (by show 20 + 5 + 1 ≤ 20 + 6 ∧ 8 + (4 + 11) + (600 + 60 * 5) ≤ 600 + 60 * 6; omega)) ⟨mjPm_blind, mj_recv hen hW' (k := 0) (by show 0 < mjN h; omega) (by rw [hC]; rfl), mjPm_at hen hS' hW'⟩ rfl rfl (hF'.1.1) rfl (lv_room (by show 1 + (1 + 0) ≤ 8; decide)) dL_element_5 ⟨by decide, by decide⟩
  · refine mjx_after hrun hS' (fun st v t hq => by obtain ⟨b, -, -, hF⟩ := hq; exact hF) (fun E st t hx => by obtain ⟨E', -, -, -, hF⟩ := hx; exact hF) ?_ ?_
    · intro v st t H1 locs1 hH hq hS1
      obtain ⟨b, rfl, ⟨ad2, hv, he2, hW2, hs2⟩, hF2⟩ := hq
      cases hv
      rw [hH] at hW2
      have e0 : ad2 0 = ad' 0 := he2 0 (Or.inl (by omega))
      have e74 : ad2 74 = ad' 74 := he2 74 (Or.inl (by omega))
      have hx8 : ∃ n, mjXL qyL_element n 6 8 (mjini 5 [.ref 0, .int p, .int q, .ref 74], [.long b, .int 0, .ref 74], mjBp h) = some (.inl (some (.int 0)), mjsL (mjBp h) 74 0 b) := by
        have hop : ∀ call, mjlast 9 call (mjini 5 [.ref 0, .int p, .int q, .ref 74], [.long b, .int 0, .ref 74], mjBp h) = some (.inl (9, (mjini 5 [.ref 0, .int p, .int q, .ref 74], [], mjsL (mjBp h) 74 0 b))) := fun call => by
          unfold mjlast
          show (bif (Nat.blt 74 (mjN h) && (mjT h 74).1 == 16) && mjin 0 (mjT h 74).2 then some (.inl (9, (mjini 5 [.ref 0, .int p, .int q, .ref 74], [], mjsL (mjBp h) 74 (0 : Int32).toNatClampNeg b))) else none : Option ((Nat × MF) ⊕ (MO × MH))) = _
          rw [hT, (Nat.blt_eq).mpr (show 74 < mjN h by omega)]
          rfl
        have g : mjGoL qyL_element 6 8 (mjini 5 [.ref 0, .int p, .int q, .ref 74], [.long b, .int 0, .ref 74], mjBp h) (fun x => x = (.inl (some (.int 0)), mjsL (mjBp h) 74 0 b)) := by
          refine mjGoL.op (pc' := 9) (F' := (mjini 5 [.ref 0, .int p, .int q, .ref 74], [], mjsL (mjBp h) 74 0 b)) (o := mjlast 9) rfl hop ?_
          exact mjGoL.ret 3 (fun _ => rfl) rfl
        obtain ⟨n, x, hn, rfl⟩ := g
        exact ⟨n, hn⟩
      obtain ⟨n, hx8⟩ := hx8
      have hF8 : mjFr K ad2 5 (mjini 5 [.ref 0, .int p, .int q, .ref 74], [.long b, .int 0, .ref 74], mjBp h) ls' := ⟨mjlr_ext hF'.1 he2 hF'.2.2, fun v hv => by
        rcases List.mem_cons.mp hv with e | hv
        · rw [e]; trivial
        rcases List.mem_cons.mp hv with e | hv
        · rw [e]; trivial
        · rw [List.mem_singleton.mp hv]; exact Or.inl (by show 74 < mjN h; omega), hF'.2.2⟩
      have k9 := mjx_run (l := l) (Qc := mjQm K ad h (some (.int (elk (.inl b)))) (elh (mjBp h) (.inl b))) (XC := fun _ _ _ => False) (below := below) (mc := 1) (ms := 6) (c0 := mjC h) (s0 := mjS h) mjGA_G (qkyL_element mjGA_good mjGA_X mjGA_lay) hx8 cx (mjBp_Wd hW2) hF8 hS1 (cells := 0 + 1) (slots := 0 + 6) rfl rfl (Nat.le_refl _) (Nat.le_refl _) (Nat.le_refl _) (Nat.le_refl _) (p := p9) (e := e) fun ad3 t3 he3 hw3 hs3 hF3 => ⟨⟨ad3, rfl, (he.trans he2 (Nat.le_refl _)).trans he3 (Nat.le_refl _), hw3, hs3⟩, hF3⟩
      rw [show ([Value.long b, .int 0, .ref 74].map (mjrn (mkZ K) ad2)) = [.long b, .int 0, .ref (ad' 74)] from by rw [← e74]; rfl] at k9
      exact k9
    · intro E ce q9 st t H1 locs1 hH hx hS1 hce hcv hcl
      obtain ⟨E', rfl, rfl, ⟨ad2, he2, hW2⟩, hF2⟩ := hx
      rw [hH] at hW2
      have hFb : ∀ ls2, mjlr (mkZ K) ad2 5 (mjini 5 [.ref 0, .int p, .int q, .ref 74]) ls2 → mjFr K ad2 5 (mjini 5 [.ref 0, .int p, .int q, .ref 74], [], mjBp h) ls2 := fun ls2 hl2 => ⟨hl2, fun v hv => (by cases hv), hF'.2.2⟩
      have hlr := mjlr_ext hF'.1 he2 hF'.2.2
      obtain ⟨-, -, hnc⟩ := hen.2.2.2.2.2.1.2.2.2.2.2
      rcases hr E rfl with rfl | rfl
      · refine vx_catch (findClass_of_methodNamed B.named) [] ⟨0, 9, 12, 13⟩ [⟨0, 9, 16, 15⟩] (htab.trans rfl) (fun z hz => by cases hz) rfl (by decide) (name := "java/lang/IllegalArgumentException") (hts _ (List.mem_cons_of_mem _ (mjGA_X _ wx72))) (va_Nw.use rfl (hnc.2.2.2.1 _ (by decide))) hce hcv hcl ?_
        refine lv_astore B.exec B.bytes dL_element_12 hlr.has (by decide) rfl (fun ls2 hl2 => ?_)
        have hx14 : mjXL qyL_element 2 6 14 (mjini 5 [.ref 0, .int p, .int q, .ref 74], [], mjBp h) = some (.inl (some (.int 1)), mjBp h) := rfl
        exact mjx_run (Qc := mjQm K ad h (some (.int 1)) (mjBp h)) mjGA_G (qkyL_element mjGA_good mjGA_X mjGA_lay) hx14 cx (mjBp_Wd hW2) (hFb _ (mjlr_out hz hlr rfl hl2)) hS1 (c0 := mjC h) (s0 := mjS h) (cells := 0 + 1) (slots := 0 + 6) rfl rfl (Nat.le_refl _) (Nat.le_refl _) (Nat.le_refl _) (Nat.le_refl _) fun ad3 t3 he3 hw3 hs3 hF3 => ⟨⟨ad3, rfl, (he.trans he2 (Nat.le_refl _)).trans he3 (Nat.le_refl _), hw3, hs3⟩, hF3⟩
      · refine vx_catch (findClass_of_methodNamed B.named) [⟨0, 9, 12, 13⟩] ⟨0, 9, 16, 15⟩ [] (htab.trans rfl) (fun z hz => by
          rw [List.mem_singleton.mp hz]
          exact Or.inr ⟨by decide, "java/lang/IllegalArgumentException", hts _ (List.mem_cons_of_mem _ (mjGA_X _ wx72)), hnc.2.2.1⟩) rfl (by decide) (name := "java/lang/IllegalStateException") (hts _ (List.mem_cons_of_mem _ (mjGA_X _ wx73))) (va_Nw.use rfl (hnc.2.2.2.1 _ (by decide))) hce hcv hcl ?_
        refine lv_astore B.exec B.bytes dL_element_16 hlr.has (by decide) rfl (fun ls2 hl2 => ?_)
        have hx18 : mjXL qyL_element 2 6 18 (mjini 5 [.ref 0, .int p, .int q, .ref 74], [], mjBp h) = some (.inl (some (.int 2)), mjBp h) := rfl
        exact mjx_run (Qc := mjQm K ad h (some (.int 2)) (mjBp h)) mjGA_G (qkyL_element mjGA_good mjGA_X mjGA_lay) hx18 cx (mjBp_Wd hW2) (hFb _ (mjlr_out hz hlr rfl hl2)) hS1 (c0 := mjC h) (s0 := mjS h) (cells := 0 + 1) (slots := 0 + 6) rfl rfl (Nat.le_refl _) (Nat.le_refl _) (Nat.le_refl _) (Nat.le_refl _) fun ad3 t3 he3 hw3 hs3 hF3 => ⟨⟨ad3, rfl, (he.trans he2 (Nat.le_refl _)).trans he3 (Nat.le_refl _), hw3, hs3⟩, hF3⟩
  · simp only [wsV, List.mem_append, List.mem_cons, List.not_mem_nil, or_false] at hw
    rcases hw with (rfl | rfl | rfl | rfl) | rfl | hw
    · exact mjGA_X _ wx75
    · exact mjGA_X _ wx83
    · exact mjGA_X _ wx94
    · exact mjGA_X _ wx9
    · exact mjGA_C _ (by decide +kernel)
    · exact hw
