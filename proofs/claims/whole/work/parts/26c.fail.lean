/-! the looker fails -/
theorem x_fail4 {K : MK} {l : Launch} (hl : l.stackTraces = false) {ad : Nat → Nat} {a : Nat} {h : MH} {f : Int32} (hk : (Nat.blt a (mjN h) && [0, 1, 2, 4, 5, 7, 8, 9].contains (mjT h a).1) = true) (hf : mjI h a 1 = f) :
    vx_Met l yX4_fail (.code yX4_fail cX4_fail 1 none :: mjGA) (mjrm 3 1 6) (mjPm K ad h [.ref a]) (fun args st o t => f = 0 ∧ mjQm K ad h none h args st o t) (fun E st t => E = "java/lang/IllegalStateException" ∧ f ≠ 0 ∧ mjWd K ad h t.heap ∧ va_F (mkA K) st t) 1 6 (mkA K) := by
  refine vx_ofW (cc := cX4_fail) (maxL := 1) (ret := none) (by decide +kernel) rfl ?_
  intro p e s m args below meth c s₁ B hml hno hv
  obtain ⟨rfl, hen, hW⟩ := hv
  have hz := hen.cat
  have hts := atoms_spec (ws := _ :: mjGA) B.pre
  have hl9 := lv_entry ([Value.ref a].map (mjrn (mkZ K) ad)) (n := 1) (by decide)
  rw [lg_entry_eq]
  generalize (lg_sl ([Value.ref a].map (mjrn (mkZ K) ad)) ++ List.replicate (1 - (lg_sl ([Value.ref a].map (mjrn (mkZ K) ad))).length) Slot.unset).toArray = ls at hl9 ⊢
  have hka : a < mjN h := by
    have := (Bool.and_eq_true_iff.mp hk).1
    simpa [Nat.blt_eq] using this
  have cx : mjCx K mjGA (mjyn meth) "LookAtClock$Looker" cX4_fail 1 none 3 p (mjrm 3 1 6) s m (List.map (mjrn (mkZ K) ad) [Value.ref a]).toArray meth c := ⟨B.exec, B.bytes, hml, B.returns, fun w hw => (List.mem_cons.mp hw).elim (fun e => by rw [e]; rfl) (fun e => hts w (List.mem_cons_of_mem _ e)), findClass_of_methodNamed B.named, B.notSynchronized, rfl, hen, Nat.le_refl _, Nat.le_refl _⟩
  have hFr : mjFr K ad 1 (mjini 1 [.ref a], [], h) ls := ⟨mjini_lr hz (by decide) (fun v hv => by simp at hv; rw [hv]; rfl) hl9, (fun w hw => by cases hw), fun w hw => by
    have : w = .ref a := by simpa [mjini] using hw
    rw [this]
    exact Or.inl hka⟩
  have hop : mjgetI [0, 1, 2, 4, 5, 7, 8, 9] 1 4 (mjcl 0 3) (mjini 1 [.ref a], [.ref a], h) = some (.inl (4, (mjini 1 [.ref a], [.int f], h))) := by
    unfold mjgetI
    show (bif (Nat.blt a (mjN h) && [0, 1, 2, 4, 5, 7, 8, 9].contains (mjT h a).1) then some (.inl (4, (mjini 1 [.ref a], .int (mjI h a 1) :: [], h))) else none : Option ((Nat × MF) ⊕ (MO × MH))) = _
    rw [hk, hf]
    rfl
  have hx : ∀ n, mjXS qyX4_fail (mjcl 0 3) (n + 2) 0 (mjini 1 [.ref a], [], h) = mjXS qyX4_fail (mjcl 0 3) n 4 (mjini 1 [.ref a], [.int f], h) := fun n => by
    show (match mjgetI [0, 1, 2, 4, 5, 7, 8, 9] 1 4 (mjcl 0 3) (mjini 1 [.ref a], [.ref a], h) with | some (.inl q) => mjXS qyX4_fail (mjcl 0 3) n q.1 q.2 | _ => none) = _
    rw [hop]
  by_cases h0 : f = 0
  · have hx2 : mjXS qyX4_fail (mjcl 0 3) 3 0 (mjini 1 [.ref a], [], h) = some (17, (mjini 1 [.ref a], [], h)) := by
      rw [hx 1, h0]
      rfl
    refine (mj_part (mjcl_ok mjGA_G 0 3) (qkyX4_fail mjGA_good mjGA_X mjGA_lay) 3 0 _ 17 _ hx2).2 p e _ s m _ below meth c cx _ (mjC h) (mjS h) 0 0 s.heap [] ls ad hW hFr va_S.rf rfl rfl (Nat.le_add_right _ _) (Nat.le_add_right _ _) ?_
    intro ad' H' locs' ls' cells' slots' he hW' hF' hS' h1 h2
    refine W.widen (k := 1) (n := 6) (by omega) (by omega) (vx_ret ?_)
    exact W.vret (Qc := fun args st o t => f = 0 ∧ mjQm K ad h none h args st o t) B.exec B.bytes B.returns (fun t ht _ => ⟨h0, ⟨ad', rfl, he, by rw [ht]; exact hW', fun v hv => by cases hv⟩, hS'.F ht⟩) hS'.2.2 dX4_fail_17 B.notSynchronized
  · have hx2 : mjXS qyX4_fail (mjcl 0 3) 3 0 (mjini 1 [.ref a], [], h) = some (7, (mjini 1 [.ref a], [], h)) := by
      rw [hx 1]
      show (match some (.inl (bif decide (f = 0) then 17 else 7, (mjini 1 [.ref a], [], h))) with | some (.inl q) => mjXS qyX4_fail (mjcl 0 3) 0 q.1 q.2 | _ => none : Option (Nat × MF)) = _
      rw [decide_eq_false h0]
      rfl
    refine (mj_part (mjcl_ok mjGA_G 0 3) (qkyX4_fail mjGA_good mjGA_X mjGA_lay) 3 0 _ 7 _ hx2).2 p e _ s m _ below meth c cx _ (mjC h) (mjS h) 0 0 s.heap [] ls ad hW hFr va_S.rf rfl rfl (Nat.le_add_right _ _) (Nat.le_add_right _ _) ?_
    intro ad' H' locs' ls' cells' slots' he hW' hF' hS' h1 h2
    obtain ⟨⟨z1, z2⟩, z3, -⟩ := hen.2.2.2.2.2.1.2.2.2.2.2
    obtain ⟨sa, hstr⟩ := z3 ("LookAtClock$Looker", 26, "a looker fails") (by decide)
    have w9 : ∀ w ∈ mjGA, w.before (List.map (mjrn (mkZ K) ad) [Value.ref a]).toArray s = true := fun w hw => hts w (List.mem_cons_of_mem _ hw)
    refine vx_throwS (ik := 24) (is := 26) (ic := 28) (cls := "java/lang/IllegalStateException") (names := mjnms) B.exec B.bytes hl (findClass_of_methodNamed B.named) (by decide +kernel) (by decide +kernel) (w9 _ (mjGA_X _ wx62)) (w9 _ (mjGA_X _ wx63)) hstr (hat4 w9) (by decide +kernel) z1 z2 hS' (hF'.1.1.trans hml.symm) dX4_fail_7 dX4_fail_10 dX4_fail_11 dX4_fail_13 dX4_fail_16 (fun x hx => (hno x hx).elim) (by decide) (by decide) (by show cells' + 1 ≤ 1; omega) (by show slots' + 6 ≤ 6; omega) B.notSynchronized ?_ hS'.2.2 (by omega) (by omega)
    intro t ha hz1 hz2
    refine ⟨rfl, h0, ?_, ?_⟩
    · have hg := mjWd_grow hW' hz2
      sorry
    · sorry
theorem x_fail0 {K : MK} {l : Launch} (hl : l.stackTraces = false) {ad : Nat → Nat} {a : Nat} {h : MH} {f : Int32} (hk : (Nat.blt a (mjN h) && [0, 1, 2, 4, 5, 7, 8, 9].contains (mjT h a).1) = true) (hf : mjI h a 1 = f) :
    vx_Met l yX0_fail (.code yX0_fail cX0_fail 1 none :: mjGA) (mjrm 3 1 6) (mjPm K ad h [.ref a]) (fun args st o t => f = 0 ∧ mjQm K ad h none h args st o t) (fun E st t => E = "java/lang/UnsupportedOperationException" ∧ f ≠ 0 ∧ mjWd K ad h t.heap ∧ va_F (mkA K) st t) 1 6 (mkA K) := by
  refine vx_ofW (cc := cX0_fail) (maxL := 1) (ret := none) (by decide +kernel) rfl ?_
  intro p e s m args below meth c s₁ B hml hno hv
  obtain ⟨rfl, hen, hW⟩ := hv
  have hz := hen.cat
  have hts := atoms_spec (ws := _ :: mjGA) B.pre
  have hl9 := lv_entry ([Value.ref a].map (mjrn (mkZ K) ad)) (n := 1) (by decide)
  rw [lg_entry_eq]
  generalize (lg_sl ([Value.ref a].map (mjrn (mkZ K) ad)) ++ List.replicate (1 - (lg_sl ([Value.ref a].map (mjrn (mkZ K) ad))).length) Slot.unset).toArray = ls at hl9 ⊢
  have hka : a < mjN h := by
    have := (Bool.and_eq_true_iff.mp hk).1
    simpa [Nat.blt_eq] using this
  have cx : mjCx K mjGA (mjyn meth) "LookAtClock$Best" cX0_fail 1 none 3 p (mjrm 3 1 6) s m (List.map (mjrn (mkZ K) ad) [Value.ref a]).toArray meth c := ⟨B.exec, B.bytes, hml, B.returns, fun w hw => (List.mem_cons.mp hw).elim (fun e => by rw [e]; rfl) (fun e => hts w (List.mem_cons_of_mem _ e)), findClass_of_methodNamed B.named, B.notSynchronized, rfl, hen, Nat.le_refl _, Nat.le_refl _⟩
  have hFr : mjFr K ad 1 (mjini 1 [.ref a], [], h) ls := ⟨mjini_lr hz (by decide) (fun v hv => by simp at hv; rw [hv]; rfl) hl9, (fun w hw => by cases hw), fun w hw => by
    have : w = .ref a := by simpa [mjini] using hw
    rw [this]
    exact Or.inl hka⟩
  have hop : mjgetI [0, 1, 2, 4, 5, 7, 8, 9] 1 4 (mjcl 0 3) (mjini 1 [.ref a], [.ref a], h) = some (.inl (4, (mjini 1 [.ref a], [.int f], h))) := by
    unfold mjgetI
    show (bif (Nat.blt a (mjN h) && [0, 1, 2, 4, 5, 7, 8, 9].contains (mjT h a).1) then some (.inl (4, (mjini 1 [.ref a], .int (mjI h a 1) :: [], h))) else none : Option ((Nat × MF) ⊕ (MO × MH))) = _
    rw [hk, hf]
    rfl
  have hx : ∀ n, mjXS qyX0_fail (mjcl 0 3) (n + 2) 0 (mjini 1 [.ref a], [], h) = mjXS qyX0_fail (mjcl 0 3) n 4 (mjini 1 [.ref a], [.int f], h) := fun n => by
    show (match mjgetI [0, 1, 2, 4, 5, 7, 8, 9] 1 4 (mjcl 0 3) (mjini 1 [.ref a], [.ref a], h) with | some (.inl q) => mjXS qyX0_fail (mjcl 0 3) n q.1 q.2 | _ => none) = _
    rw [hop]
  by_cases h0 : f = 0
  · have hx2 : mjXS qyX0_fail (mjcl 0 3) 3 0 (mjini 1 [.ref a], [], h) = some (17, (mjini 1 [.ref a], [], h)) := by
      rw [hx 1, h0]
      rfl
    refine (mj_part (mjcl_ok mjGA_G 0 3) (qkyX0_fail mjGA_good mjGA_X mjGA_lay) 3 0 _ 17 _ hx2).2 p e _ s m _ below meth c cx _ (mjC h) (mjS h) 0 0 s.heap [] ls ad hW hFr va_S.rf rfl rfl (Nat.le_add_right _ _) (Nat.le_add_right _ _) ?_
    intro ad' H' locs' ls' cells' slots' he hW' hF' hS' h1 h2
    refine W.widen (k := 1) (n := 6) (by omega) (by omega) (vx_ret ?_)
    exact W.vret (Qc := fun args st o t => f = 0 ∧ mjQm K ad h none h args st o t) B.exec B.bytes B.returns (fun t ht _ => ⟨h0, ⟨ad', rfl, he, by rw [ht]; exact hW', fun v hv => by cases hv⟩, hS'.F ht⟩) hS'.2.2 dX0_fail_17 B.notSynchronized
  · have hx2 : mjXS qyX0_fail (mjcl 0 3) 3 0 (mjini 1 [.ref a], [], h) = some (7, (mjini 1 [.ref a], [], h)) := by
      rw [hx 1]
      show (match some (.inl (bif decide (f = 0) then 17 else 7, (mjini 1 [.ref a], [], h))) with | some (.inl q) => mjXS qyX0_fail (mjcl 0 3) 0 q.1 q.2 | _ => none : Option (Nat × MF)) = _
      rw [decide_eq_false h0]
      rfl
    refine (mj_part (mjcl_ok mjGA_G 0 3) (qkyX0_fail mjGA_good mjGA_X mjGA_lay) 3 0 _ 7 _ hx2).2 p e _ s m _ below meth c cx _ (mjC h) (mjS h) 0 0 s.heap [] ls ad hW hFr va_S.rf rfl rfl (Nat.le_add_right _ _) (Nat.le_add_right _ _) ?_
    intro ad' H' locs' ls' cells' slots' he hW' hF' hS' h1 h2
    obtain ⟨⟨z1, z2⟩, z3, -⟩ := hen.2.2.2.2.2.1.2.2.2.2.2
    obtain ⟨sa, hstr⟩ := z3 ("LookAtClock$Best", 19, "a best one fails") (by decide)
    have w9 : ∀ w ∈ mjGA, w.before (List.map (mjrn (mkZ K) ad) [Value.ref a]).toArray s = true := fun w hw => hts w (List.mem_cons_of_mem _ hw)
    refine vx_throwS (ik := 17) (is := 19) (ic := 21) (cls := "java/lang/UnsupportedOperationException") (names := mjnms) B.exec B.bytes hl (findClass_of_methodNamed B.named) (by decide +kernel) (by decide +kernel) (w9 _ (mjGA_X _ wx60)) (w9 _ (mjGA_X _ wx61)) hstr (hat0 w9) (by decide +kernel) z1 z2 hS' (hF'.1.1.trans hml.symm) dX0_fail_7 dX0_fail_10 dX0_fail_11 dX0_fail_13 dX0_fail_16 (fun x hx => (hno x hx).elim) (by decide) (by decide) (by show cells' + 1 ≤ 1; omega) (by show slots' + 6 ≤ 6; omega) B.notSynchronized ?_ hS'.2.2 (by omega) (by omega)
    intro t ha hz1 hz2
    refine ⟨rfl, h0, ?_, ?_⟩
    · have hg := mjWd_grow hW' hz2
      sorry
    · sorry
theorem x_fail7 {K : MK} {l : Launch} (hl : l.stackTraces = false) {ad : Nat → Nat} {a : Nat} {h : MH} {f : Int32} (hk : (Nat.blt a (mjN h) && [0, 1, 2, 4, 5, 7, 8, 9].contains (mjT h a).1) = true) (hf : mjI h a 1 = f) :
    vx_Met l yX7_fail (.code yX7_fail cX7_fail 1 none :: mjGA) (mjrm 3 1 6) (mjPm K ad h [.ref a]) (fun args st o t => f = 0 ∧ mjQm K ad h none h args st o t) (fun E st t => E = "java/lang/IllegalArgumentException" ∧ f ≠ 0 ∧ mjWd K ad h t.heap ∧ va_F (mkA K) st t) 1 6 (mkA K) := by
  refine vx_ofW (cc := cX7_fail) (maxL := 1) (ret := none) (by decide +kernel) rfl ?_
  intro p e s m args below meth c s₁ B hml hno hv
  obtain ⟨rfl, hen, hW⟩ := hv
  have hz := hen.cat
  have hts := atoms_spec (ws := _ :: mjGA) B.pre
  have hl9 := lv_entry ([Value.ref a].map (mjrn (mkZ K) ad)) (n := 1) (by decide)
  rw [lg_entry_eq]
  generalize (lg_sl ([Value.ref a].map (mjrn (mkZ K) ad)) ++ List.replicate (1 - (lg_sl ([Value.ref a].map (mjrn (mkZ K) ad))).length) Slot.unset).toArray = ls at hl9 ⊢
  have hka : a < mjN h := by
    have := (Bool.and_eq_true_iff.mp hk).1
    simpa [Nat.blt_eq] using this
  have cx : mjCx K mjGA (mjyn meth) "LookAtClock$Seller" cX7_fail 1 none 3 p (mjrm 3 1 6) s m (List.map (mjrn (mkZ K) ad) [Value.ref a]).toArray meth c := ⟨B.exec, B.bytes, hml, B.returns, fun w hw => (List.mem_cons.mp hw).elim (fun e => by rw [e]; rfl) (fun e => hts w (List.mem_cons_of_mem _ e)), findClass_of_methodNamed B.named, B.notSynchronized, rfl, hen, Nat.le_refl _, Nat.le_refl _⟩
  have hFr : mjFr K ad 1 (mjini 1 [.ref a], [], h) ls := ⟨mjini_lr hz (by decide) (fun v hv => by simp at hv; rw [hv]; rfl) hl9, (fun w hw => by cases hw), fun w hw => by
    have : w = .ref a := by simpa [mjini] using hw
    rw [this]
    exact Or.inl hka⟩
  have hop : mjgetI [0, 1, 2, 4, 5, 7, 8, 9] 1 4 (mjcl 0 3) (mjini 1 [.ref a], [.ref a], h) = some (.inl (4, (mjini 1 [.ref a], [.int f], h))) := by
    unfold mjgetI
    show (bif (Nat.blt a (mjN h) && [0, 1, 2, 4, 5, 7, 8, 9].contains (mjT h a).1) then some (.inl (4, (mjini 1 [.ref a], .int (mjI h a 1) :: [], h))) else none : Option ((Nat × MF) ⊕ (MO × MH))) = _
    rw [hk, hf]
    rfl
  have hx : ∀ n, mjXS qyX7_fail (mjcl 0 3) (n + 2) 0 (mjini 1 [.ref a], [], h) = mjXS qyX7_fail (mjcl 0 3) n 4 (mjini 1 [.ref a], [.int f], h) := fun n => by
    show (match mjgetI [0, 1, 2, 4, 5, 7, 8, 9] 1 4 (mjcl 0 3) (mjini 1 [.ref a], [.ref a], h) with | some (.inl q) => mjXS qyX7_fail (mjcl 0 3) n q.1 q.2 | _ => none) = _
    rw [hop]
  by_cases h0 : f = 0
  · have hx2 : mjXS qyX7_fail (mjcl 0 3) 3 0 (mjini 1 [.ref a], [], h) = some (17, (mjini 1 [.ref a], [], h)) := by
      rw [hx 1, h0]
      rfl
    refine (mj_part (mjcl_ok mjGA_G 0 3) (qkyX7_fail mjGA_good mjGA_X mjGA_lay) 3 0 _ 17 _ hx2).2 p e _ s m _ below meth c cx _ (mjC h) (mjS h) 0 0 s.heap [] ls ad hW hFr va_S.rf rfl rfl (Nat.le_add_right _ _) (Nat.le_add_right _ _) ?_
    intro ad' H' locs' ls' cells' slots' he hW' hF' hS' h1 h2
    refine W.widen (k := 1) (n := 6) (by omega) (by omega) (vx_ret ?_)
    exact W.vret (Qc := fun args st o t => f = 0 ∧ mjQm K ad h none h args st o t) B.exec B.bytes B.returns (fun t ht _ => ⟨h0, ⟨ad', rfl, he, by rw [ht]; exact hW', fun v hv => by cases hv⟩, hS'.F ht⟩) hS'.2.2 dX7_fail_17 B.notSynchronized
  · have hx2 : mjXS qyX7_fail (mjcl 0 3) 3 0 (mjini 1 [.ref a], [], h) = some (7, (mjini 1 [.ref a], [], h)) := by
      rw [hx 1]
      show (match some (.inl (bif decide (f = 0) then 17 else 7, (mjini 1 [.ref a], [], h))) with | some (.inl q) => mjXS qyX7_fail (mjcl 0 3) 0 q.1 q.2 | _ => none : Option (Nat × MF)) = _
      rw [decide_eq_false h0]
      rfl
    refine (mj_part (mjcl_ok mjGA_G 0 3) (qkyX7_fail mjGA_good mjGA_X mjGA_lay) 3 0 _ 7 _ hx2).2 p e _ s m _ below meth c cx _ (mjC h) (mjS h) 0 0 s.heap [] ls ad hW hFr va_S.rf rfl rfl (Nat.le_add_right _ _) (Nat.le_add_right _ _) ?_
    intro ad' H' locs' ls' cells' slots' he hW' hF' hS' h1 h2
    obtain ⟨⟨z1, z2⟩, z3, -⟩ := hen.2.2.2.2.2.1.2.2.2.2.2
    obtain ⟨sa, hstr⟩ := z3 ("LookAtClock$Seller", 25, "a seller fails") (by decide)
    have w9 : ∀ w ∈ mjGA, w.before (List.map (mjrn (mkZ K) ad) [Value.ref a]).toArray s = true := fun w hw => hts w (List.mem_cons_of_mem _ hw)
    refine vx_throwS (ik := 23) (is := 25) (ic := 27) (cls := "java/lang/IllegalArgumentException") (names := mjnms) B.exec B.bytes hl (findClass_of_methodNamed B.named) (by decide +kernel) (by decide +kernel) (w9 _ (mjGA_X _ wx64)) (w9 _ (mjGA_X _ wx65)) hstr (hat7 w9) (by decide +kernel) z1 z2 hS' (hF'.1.1.trans hml.symm) dX7_fail_7 dX7_fail_10 dX7_fail_11 dX7_fail_13 dX7_fail_16 (fun x hx => (hno x hx).elim) (by decide) (by decide) (by show cells' + 1 ≤ 1; omega) (by show slots' + 6 ≤ 6; omega) B.notSynchronized ?_ hS'.2.2 (by omega) (by omega)
    intro t ha hz1 hz2
    refine ⟨rfl, h0, ?_, ?_⟩
    · have hg := mjWd_grow hW' hz2
      sorry
    · sorry
