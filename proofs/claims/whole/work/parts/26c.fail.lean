/-! the looker fails -/
theorem x_fail4 {K : MK} {l : Launch} (hl : l.stackTraces = false) {ad : Nat → Nat} {a : Nat} {h : MH} {f : Int32} (hk : (Nat.blt a (mjN h) && [0, 1, 2, 4, 5, 7, 8, 9].contains (mjT h a).1) = true) (hf : mjI h a 1 = f) :
    vx_Met l yX4_fail (.code yX4_fail cX4_fail 1 none :: mjGA) (mjrm 3 1 6) (mjPm K ad h [.ref a]) (fun args st o t => f = 0 ∧ mjQm K ad h none h args st o t) (fun E st t => f ≠ 0 ∧ mjQx K ad h "java/lang/IllegalStateException" (mjN h) E st t) 1 6 (mkA K) := by
  refine vx_ofW (cc := cX4_fail) (maxL := 1) (ret := none) (by decide +kernel) rfl ?_
  intro p e s m args below meth c s₁ B hml hno hv
  obtain ⟨rfl, hen, hW⟩ := hv
  have hz := hen.cat
  have hka : a < mjN h := by
    have := (Bool.and_eq_true_iff.mp hk).1
    simpa [Nat.blt_eq] using this
  obtain ⟨ls, e1, hFr⟩ := mjx_fr (K := K) (ad := ad) (h := h) (as := [.ref a]) (nL := 1) m hz (fun v hv => by rw [List.mem_singleton.mp hv]; exact Or.inl hka) (by simp) (fun v hv => by rw [List.mem_singleton.mp hv]; rfl)
  rw [e1]
  have cx := mjx_cx B hml hen 3 (Nat.le_refl _) (Nat.le_refl _)
  have hop : ∀ call, mjgetI [0, 1, 2, 4, 5, 7, 8, 9] 1 4 call (mjini 1 [.ref a], [.ref a], h) = some (.inl (4, (mjini 1 [.ref a], [.int f], h))) := fun call => by
    unfold mjgetI
    show (bif (Nat.blt a (mjN h) && [0, 1, 2, 4, 5, 7, 8, 9].contains (mjT h a).1) then some (.inl (4, (mjini 1 [.ref a], .int (mjI h a 1) :: [], h))) else none : Option ((Nat × MF) ⊕ (MO × MH))) = _
    rw [hk, hf]
    rfl
  by_cases h0 : f = 0
  · have hx2 : ∃ n, mjXL qyX4_fail n 3 0 (mjini 1 [.ref a], [], h) = some (.inl none, h) := by
      have g : mjGoL qyX4_fail 3 0 (mjini 1 [.ref a], [], h) (fun x => x = (.inl none, h)) := by
        refine mjGoL.run 1 (pc' := 1) (F' := (mjini 1 [.ref a], [.ref a], h)) (fun _ => rfl) ?_
        refine mjGoL.op (pc' := 4) (F' := (mjini 1 [.ref a], [.int f], h)) (o := mjgetI [0, 1, 2, 4, 5, 7, 8, 9] 1 4) rfl hop ?_
        refine mjGoL.run 1 (pc' := (bif decide (f = 0) then 17 else 7)) (F' := (mjini 1 [.ref a], [], h)) (fun _ => rfl) ?_
        refine mjGoL.brT h0 ?_
        exact mjGoL.ret 1 (fun _ => rfl) rfl
      obtain ⟨n, x, hn, rfl⟩ := g
      exact ⟨n, hn⟩
    obtain ⟨n, hx2⟩ := hx2
    exact mjx_run mjGA_G (qkyX4_fail mjGA_good mjGA_X mjGA_lay) hx2 cx hW hFr va_S.rf (c0 := mjC h) (s0 := mjS h) rfl rfl (Nat.le_add_right _ _) (Nat.le_add_right _ _) (Nat.le_refl _) (Nat.le_refl _) fun ad' t he hw hs hF => ⟨h0, ⟨ad', rfl, he, hw, hs⟩, hF⟩
  · have hx2 : mjXS qyX4_fail (mjcl 0 3) 3 0 (mjini 1 [.ref a], [], h) = some (7, (mjini 1 [.ref a], [], h)) := by
      show (match mjgetI [0, 1, 2, 4, 5, 7, 8, 9] 1 4 (mjcl 0 3) (mjini 1 [.ref a], [.ref a], h) with | some (.inl q) => mjXS qyX4_fail (mjcl 0 3) 1 q.1 q.2 | _ => none) = _
      rw [hop]
      show some ((bif decide (f = 0) then 17 else 7), (mjini 1 [.ref a], [], h)) = _
      rw [decide_eq_false h0]
      rfl
    refine (mj_part (mjcl_ok mjGA_G 0 3) (qkyX4_fail mjGA_good mjGA_X mjGA_lay) 3 0 _ 7 _ hx2).2 p e _ s m _ below meth c cx _ (mjC h) (mjS h) 0 0 s.heap [] ls ad hW hFr va_S.rf rfl rfl (Nat.le_add_right _ _) (Nat.le_add_right _ _) ?_
    intro ad' H' locs' ls' cells' slots' he hW' hF' hS' h1 h2
    have h1 : mjC h + cells' = mjC h := h1
    have h2 : mjS h + slots' = mjS h := h2
    obtain ⟨⟨z1, z2⟩, z3, -⟩ := hen.2.2.2.2.2.1.2.2.2.2.2
    obtain ⟨sa, hstr⟩ := z3 ("LookAtClock$Looker", 26, "a looker fails") (by decide)
    have w9 : ∀ w ∈ mjGA, w.before (List.map (mjrn (mkZ K) ad) [Value.ref a]).toArray s = true := fun w hw => atoms_spec (ws := _ :: mjGA) B.pre w (List.mem_cons_of_mem _ hw)
    refine vx_throwS (own := "LookAtClock$Looker") (cls := "java/lang/IllegalStateException") (text := "a looker fails") (ik := 24) (is := 26) (ic := 28) (names := mjnms) B.exec B.bytes hl (findClass_of_methodNamed B.named) (by decide +kernel) (by decide +kernel) (w9 _ (mjGA_X _ wx65)) (w9 _ (mjGA_X _ wx66)) hstr (mjhat4 hen w9) (by decide +kernel) z1 z2 hS' (hF'.1.1.trans hml.symm) dX4_fail_7 dX4_fail_10 dX4_fail_11 dX4_fail_13 dX4_fail_16 (fun x hx => (hno x hx).elim) (by decide) (by show 0 + (13 * 3 + 43) ≤ 600 + 60 * 3; omega) (by show cells' + 1 ≤ 1; omega) (by show slots' + 6 ≤ 6; omega) B.notSynchronized ?_ hS'.2.2 (by omega) (by omega)
    intro t ha hz1 hz2
    exact ⟨h0, mjQx_of he hW' hS' hz1 hz2⟩
theorem x_fail0 {K : MK} {l : Launch} (hl : l.stackTraces = false) {ad : Nat → Nat} {a : Nat} {h : MH} {f : Int32} (hk : (Nat.blt a (mjN h) && [0, 1, 2, 4, 5, 7, 8, 9].contains (mjT h a).1) = true) (hf : mjI h a 1 = f) :
    vx_Met l yX0_fail (.code yX0_fail cX0_fail 1 none :: mjGA) (mjrm 3 1 6) (mjPm K ad h [.ref a]) (fun args st o t => f = 0 ∧ mjQm K ad h none h args st o t) (fun E st t => f ≠ 0 ∧ mjQx K ad h "java/lang/UnsupportedOperationException" (mjN h) E st t) 1 6 (mkA K) := by
  refine vx_ofW (cc := cX0_fail) (maxL := 1) (ret := none) (by decide +kernel) rfl ?_
  intro p e s m args below meth c s₁ B hml hno hv
  obtain ⟨rfl, hen, hW⟩ := hv
  have hz := hen.cat
  have hka : a < mjN h := by
    have := (Bool.and_eq_true_iff.mp hk).1
    simpa [Nat.blt_eq] using this
  obtain ⟨ls, e1, hFr⟩ := mjx_fr (K := K) (ad := ad) (h := h) (as := [.ref a]) (nL := 1) m hz (fun v hv => by rw [List.mem_singleton.mp hv]; exact Or.inl hka) (by simp) (fun v hv => by rw [List.mem_singleton.mp hv]; rfl)
  rw [e1]
  have cx := mjx_cx B hml hen 3 (Nat.le_refl _) (Nat.le_refl _)
  have hop : ∀ call, mjgetI [0, 1, 2, 4, 5, 7, 8, 9] 1 4 call (mjini 1 [.ref a], [.ref a], h) = some (.inl (4, (mjini 1 [.ref a], [.int f], h))) := fun call => by
    unfold mjgetI
    show (bif (Nat.blt a (mjN h) && [0, 1, 2, 4, 5, 7, 8, 9].contains (mjT h a).1) then some (.inl (4, (mjini 1 [.ref a], .int (mjI h a 1) :: [], h))) else none : Option ((Nat × MF) ⊕ (MO × MH))) = _
    rw [hk, hf]
    rfl
  by_cases h0 : f = 0
  · have hx2 : ∃ n, mjXL qyX0_fail n 3 0 (mjini 1 [.ref a], [], h) = some (.inl none, h) := by
      have g : mjGoL qyX0_fail 3 0 (mjini 1 [.ref a], [], h) (fun x => x = (.inl none, h)) := by
        refine mjGoL.run 1 (pc' := 1) (F' := (mjini 1 [.ref a], [.ref a], h)) (fun _ => rfl) ?_
        refine mjGoL.op (pc' := 4) (F' := (mjini 1 [.ref a], [.int f], h)) (o := mjgetI [0, 1, 2, 4, 5, 7, 8, 9] 1 4) rfl hop ?_
        refine mjGoL.run 1 (pc' := (bif decide (f = 0) then 17 else 7)) (F' := (mjini 1 [.ref a], [], h)) (fun _ => rfl) ?_
        refine mjGoL.brT h0 ?_
        exact mjGoL.ret 1 (fun _ => rfl) rfl
      obtain ⟨n, x, hn, rfl⟩ := g
      exact ⟨n, hn⟩
    obtain ⟨n, hx2⟩ := hx2
    exact mjx_run mjGA_G (qkyX0_fail mjGA_good mjGA_X mjGA_lay) hx2 cx hW hFr va_S.rf (c0 := mjC h) (s0 := mjS h) rfl rfl (Nat.le_add_right _ _) (Nat.le_add_right _ _) (Nat.le_refl _) (Nat.le_refl _) fun ad' t he hw hs hF => ⟨h0, ⟨ad', rfl, he, hw, hs⟩, hF⟩
  · have hx2 : mjXS qyX0_fail (mjcl 0 3) 3 0 (mjini 1 [.ref a], [], h) = some (7, (mjini 1 [.ref a], [], h)) := by
      show (match mjgetI [0, 1, 2, 4, 5, 7, 8, 9] 1 4 (mjcl 0 3) (mjini 1 [.ref a], [.ref a], h) with | some (.inl q) => mjXS qyX0_fail (mjcl 0 3) 1 q.1 q.2 | _ => none) = _
      rw [hop]
      show some ((bif decide (f = 0) then 17 else 7), (mjini 1 [.ref a], [], h)) = _
      rw [decide_eq_false h0]
      rfl
    refine (mj_part (mjcl_ok mjGA_G 0 3) (qkyX0_fail mjGA_good mjGA_X mjGA_lay) 3 0 _ 7 _ hx2).2 p e _ s m _ below meth c cx _ (mjC h) (mjS h) 0 0 s.heap [] ls ad hW hFr va_S.rf rfl rfl (Nat.le_add_right _ _) (Nat.le_add_right _ _) ?_
    intro ad' H' locs' ls' cells' slots' he hW' hF' hS' h1 h2
    have h1 : mjC h + cells' = mjC h := h1
    have h2 : mjS h + slots' = mjS h := h2
    obtain ⟨⟨z1, z2⟩, z3, -⟩ := hen.2.2.2.2.2.1.2.2.2.2.2
    obtain ⟨sa, hstr⟩ := z3 ("LookAtClock$Best", 19, "a best one fails") (by decide)
    have w9 : ∀ w ∈ mjGA, w.before (List.map (mjrn (mkZ K) ad) [Value.ref a]).toArray s = true := fun w hw => atoms_spec (ws := _ :: mjGA) B.pre w (List.mem_cons_of_mem _ hw)
    refine vx_throwS (own := "LookAtClock$Best") (cls := "java/lang/UnsupportedOperationException") (text := "a best one fails") (ik := 17) (is := 19) (ic := 21) (names := mjnms) B.exec B.bytes hl (findClass_of_methodNamed B.named) (by decide +kernel) (by decide +kernel) (w9 _ (mjGA_X _ wx63)) (w9 _ (mjGA_X _ wx64)) hstr (mjhat0 hen w9) (by decide +kernel) z1 z2 hS' (hF'.1.1.trans hml.symm) dX0_fail_7 dX0_fail_10 dX0_fail_11 dX0_fail_13 dX0_fail_16 (fun x hx => (hno x hx).elim) (by decide) (by show 0 + (13 * 3 + 43) ≤ 600 + 60 * 3; omega) (by show cells' + 1 ≤ 1; omega) (by show slots' + 6 ≤ 6; omega) B.notSynchronized ?_ hS'.2.2 (by omega) (by omega)
    intro t ha hz1 hz2
    exact ⟨h0, mjQx_of he hW' hS' hz1 hz2⟩
theorem x_fail7 {K : MK} {l : Launch} (hl : l.stackTraces = false) {ad : Nat → Nat} {a : Nat} {h : MH} {f : Int32} (hk : (Nat.blt a (mjN h) && [0, 1, 2, 4, 5, 7, 8, 9].contains (mjT h a).1) = true) (hf : mjI h a 1 = f) :
    vx_Met l yX7_fail (.code yX7_fail cX7_fail 1 none :: mjGA) (mjrm 3 1 6) (mjPm K ad h [.ref a]) (fun args st o t => f = 0 ∧ mjQm K ad h none h args st o t) (fun E st t => f ≠ 0 ∧ mjQx K ad h "java/lang/IllegalArgumentException" (mjN h) E st t) 1 6 (mkA K) := by
  refine vx_ofW (cc := cX7_fail) (maxL := 1) (ret := none) (by decide +kernel) rfl ?_
  intro p e s m args below meth c s₁ B hml hno hv
  obtain ⟨rfl, hen, hW⟩ := hv
  have hz := hen.cat
  have hka : a < mjN h := by
    have := (Bool.and_eq_true_iff.mp hk).1
    simpa [Nat.blt_eq] using this
  obtain ⟨ls, e1, hFr⟩ := mjx_fr (K := K) (ad := ad) (h := h) (as := [.ref a]) (nL := 1) m hz (fun v hv => by rw [List.mem_singleton.mp hv]; exact Or.inl hka) (by simp) (fun v hv => by rw [List.mem_singleton.mp hv]; rfl)
  rw [e1]
  have cx := mjx_cx B hml hen 3 (Nat.le_refl _) (Nat.le_refl _)
  have hop : ∀ call, mjgetI [0, 1, 2, 4, 5, 7, 8, 9] 1 4 call (mjini 1 [.ref a], [.ref a], h) = some (.inl (4, (mjini 1 [.ref a], [.int f], h))) := fun call => by
    unfold mjgetI
    show (bif (Nat.blt a (mjN h) && [0, 1, 2, 4, 5, 7, 8, 9].contains (mjT h a).1) then some (.inl (4, (mjini 1 [.ref a], .int (mjI h a 1) :: [], h))) else none : Option ((Nat × MF) ⊕ (MO × MH))) = _
    rw [hk, hf]
    rfl
  by_cases h0 : f = 0
  · have hx2 : ∃ n, mjXL qyX7_fail n 3 0 (mjini 1 [.ref a], [], h) = some (.inl none, h) := by
      have g : mjGoL qyX7_fail 3 0 (mjini 1 [.ref a], [], h) (fun x => x = (.inl none, h)) := by
        refine mjGoL.run 1 (pc' := 1) (F' := (mjini 1 [.ref a], [.ref a], h)) (fun _ => rfl) ?_
        refine mjGoL.op (pc' := 4) (F' := (mjini 1 [.ref a], [.int f], h)) (o := mjgetI [0, 1, 2, 4, 5, 7, 8, 9] 1 4) rfl hop ?_
        refine mjGoL.run 1 (pc' := (bif decide (f = 0) then 17 else 7)) (F' := (mjini 1 [.ref a], [], h)) (fun _ => rfl) ?_
        refine mjGoL.brT h0 ?_
        exact mjGoL.ret 1 (fun _ => rfl) rfl
      obtain ⟨n, x, hn, rfl⟩ := g
      exact ⟨n, hn⟩
    obtain ⟨n, hx2⟩ := hx2
    exact mjx_run mjGA_G (qkyX7_fail mjGA_good mjGA_X mjGA_lay) hx2 cx hW hFr va_S.rf (c0 := mjC h) (s0 := mjS h) rfl rfl (Nat.le_add_right _ _) (Nat.le_add_right _ _) (Nat.le_refl _) (Nat.le_refl _) fun ad' t he hw hs hF => ⟨h0, ⟨ad', rfl, he, hw, hs⟩, hF⟩
  · have hx2 : mjXS qyX7_fail (mjcl 0 3) 3 0 (mjini 1 [.ref a], [], h) = some (7, (mjini 1 [.ref a], [], h)) := by
      show (match mjgetI [0, 1, 2, 4, 5, 7, 8, 9] 1 4 (mjcl 0 3) (mjini 1 [.ref a], [.ref a], h) with | some (.inl q) => mjXS qyX7_fail (mjcl 0 3) 1 q.1 q.2 | _ => none) = _
      rw [hop]
      show some ((bif decide (f = 0) then 17 else 7), (mjini 1 [.ref a], [], h)) = _
      rw [decide_eq_false h0]
      rfl
    refine (mj_part (mjcl_ok mjGA_G 0 3) (qkyX7_fail mjGA_good mjGA_X mjGA_lay) 3 0 _ 7 _ hx2).2 p e _ s m _ below meth c cx _ (mjC h) (mjS h) 0 0 s.heap [] ls ad hW hFr va_S.rf rfl rfl (Nat.le_add_right _ _) (Nat.le_add_right _ _) ?_
    intro ad' H' locs' ls' cells' slots' he hW' hF' hS' h1 h2
    have h1 : mjC h + cells' = mjC h := h1
    have h2 : mjS h + slots' = mjS h := h2
    obtain ⟨⟨z1, z2⟩, z3, -⟩ := hen.2.2.2.2.2.1.2.2.2.2.2
    obtain ⟨sa, hstr⟩ := z3 ("LookAtClock$Seller", 25, "a seller fails") (by decide)
    have w9 : ∀ w ∈ mjGA, w.before (List.map (mjrn (mkZ K) ad) [Value.ref a]).toArray s = true := fun w hw => atoms_spec (ws := _ :: mjGA) B.pre w (List.mem_cons_of_mem _ hw)
    refine vx_throwS (own := "LookAtClock$Seller") (cls := "java/lang/IllegalArgumentException") (text := "a seller fails") (ik := 23) (is := 25) (ic := 27) (names := mjnms) B.exec B.bytes hl (findClass_of_methodNamed B.named) (by decide +kernel) (by decide +kernel) (w9 _ (mjGA_X _ wx67)) (w9 _ (mjGA_X _ wx68)) hstr (mjhat7 hen w9) (by decide +kernel) z1 z2 hS' (hF'.1.1.trans hml.symm) dX7_fail_7 dX7_fail_10 dX7_fail_11 dX7_fail_13 dX7_fail_16 (fun x hx => (hno x hx).elim) (by decide) (by show 0 + (13 * 3 + 43) ≤ 600 + 60 * 3; omega) (by show cells' + 1 ≤ 1; omega) (by show slots' + 6 ≤ 6; omega) B.notSynchronized ?_ hS'.2.2 (by omega) (by omega)
    intro t ha hz1 hz2
    exact ⟨h0, mjQx_of he hW' hS' hz1 hz2⟩
