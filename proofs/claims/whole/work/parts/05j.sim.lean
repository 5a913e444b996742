/-! the small machine's runs are the machine's -/
section MJ7
variable {K : MK} {l : Launch} {G : List Cond} {M : MT} {P : Nat → Nat → MOp}
/-- what a run of the small machine says of the machine -/
def mjSim (K : MK) (l : Launch) (G : List Cond) (M : MT) (d i pc : Nat) (F : MF) (v : Option Value) (h' : MH) : Prop :=
  ∀ (p : Program) (e : Env) (R : Room) (s : State) (m : MethodId) (args : Array Value) (below : List Frame) (meth : Method) (c : Code), mjCx K G (M i).1 (M i).1.cls (M i).2.1 (M i).2.2.1 (M i).2.2.2 d p R s m args meth c →
    ∀ (Q : State → Prop) (c0 s0 cells slots : Nat) (H : Heap) (locs : List Loc) (ls : Array Slot) (ad : Nat → Nat),
      mjWd K ad F.2.2 H → mjFr K ad (M i).2.2.1 F ls → va_S (mkA K) s.heap H locs → c0 + cells = mjC F.2.2 → s0 + slots = mjS F.2.2 → mjC h' ≤ c0 + R.cells → mjS h' ≤ s0 + R.slots →
      (∀ (ad' : Nat → Nat) (H' : Heap) (locs' : List Loc) (ls' : Array Slot) (cells' slots' : Nat) (ins : Instr) (pc' : Nat), mjExt ad ad' (mjN F.2.2) → mjWd K ad' h' H' → (∀ w, v = some w → mjsc (mjN h') w) → va_S (mkA K) s.heap H' locs' → c0 + cells' = mjC h' → s0 + slots' = mjS h' → mjri (M i).2.2.2 ins v → decode (M i).2.1 pc' = .ok (ins, 1) → W p l e R s m args below meth c H' locs' cells' slots' Q (F0 m pc' ls' (v.toList.map (mjrn (mkZ K) ad')))) →
      W p l e R s m args below meth c H locs cells slots Q (F0 m pc ls (F.2.1.map (mjrn (mkZ K) ad)))
theorem mj_met {d j : Nat} {as : List Value} {h h' : MH} {v : Option Value} (hpl : plainName (M j).1.cls = true) (hmono : mjmono h h') (hw : mjSim K l G M d j 0 (mjini (M j).2.2.1 as, [], h) v h') : mjCt K l G M d j as h v h' := by
  intro ad hsc hlen hcat
  refine Met.ofW (cc := (M j).2.1) (maxL := (M j).2.2.1) (ret := (M j).2.2.2) hpl rfl ?_
  intro p e s m args below meth c s₁ B hml hv
  obtain ⟨rfl, hen, hW⟩ := hv
  have hz := hen.cat
  have hsl : ∀ (l9 : List Value), (∀ w ∈ l9, w.category = 1) → (lg_sl (l9.map (mjrn (mkZ K) ad))).length = l9.length := by
    intro l9
    induction l9 with
    | nil => intro _; rfl
    | cons a t ih =>
      intro hc
      have ha : (mjrn (mkZ K) ad a).category = 1 := by rw [mjrn_cat hz]; exact hc a List.mem_cons_self
      have e1 : lg_sl ((a :: t).map (mjrn (mkZ K) ad)) = [Slot.val (mjrn (mkZ K) ad a)] ++ lg_sl (t.map (mjrn (mkZ K) ad)) := by
        unfold lg_sl
        rw [List.map_cons, List.flatMap_cons, if_neg (by rw [ha]; decide)]
      rw [e1, List.length_append, ih (fun w hw => hc w (List.mem_cons_of_mem _ hw))]
      simp
      omega
  have hl := lv_entry (as.map (mjrn (mkZ K) ad)) (n := (M j).2.2.1) (by rw [hsl as hcat]; exact hlen)
  rw [lg_entry_eq]
  generalize (lg_sl (as.map (mjrn (mkZ K) ad)) ++ List.replicate ((M j).2.2.1 - (lg_sl (as.map (mjrn (mkZ K) ad))).length) Slot.unset).toArray = ls at hl ⊢
  have hm1 := hmono.2.1
  have hm2 := hmono.2.2
  refine hw p e _ s m _ below meth c ⟨B.exec, B.bytes, hml, B.returns, mjcw_of (atoms_spec (ws := _ :: G) B.pre), findClass_of_methodNamed B.named, B.notSynchronized, (name_of_methodNamed B.named B.method).1, hen, Nat.le_refl _, Nat.le_refl _⟩ _ (mjC h) (mjS h) 0 0 s.heap [] ls ad hW ⟨mjini_lr hz hlen hcat hl, (fun w hw => by cases hw), fun w hw => ?_⟩ va_S.rf rfl rfl (by show mjC h' ≤ mjC h + (mjC h' - mjC h); omega) (by show mjS h' ≤ mjS h + (mjS h' - mjS h); omega) ?_
  · unfold mjini at hw
    rcases List.mem_append.mp hw with q | q
    · obtain ⟨z, hz1, hz2⟩ := List.mem_map.mp q
      cases hz2
      exact hsc _ hz1
    · have := (List.mem_replicate.mp q).2
      cases this
  · intro ad' H' locs' ls' cells' slots' ins pc' he hW' hs' hS' h1 h2 hri hd
    have e1 : cells' = mjC h' - mjC h := by omega
    have e2 : slots' = mjS h' - mjS h := by omega
    subst e1; subst e2
    have hQ : ∀ t : State, t.heap = H' → s.WarmedH t.vm → mjQm K ad h v h' (as.map (mjrn (mkZ K) ad)).toArray s (.returned (v.map (mjrn (mkZ K) ad'))) t := fun t ht _ => ⟨⟨ad', rfl, he, by rw [ht]; exact hW', hs'⟩, hS'.F ht⟩
    rcases hri with ⟨ty, x, hr, hn, rfl, rfl⟩ | ⟨x, hr, rfl, rfl⟩ | ⟨hr, rfl, hv⟩ | ⟨hr, rfl, rfl⟩
    · exact W.zret (Qc := mjQm K ad h _ h') B.exec B.bytes (B.returns.trans hr) hn hQ hS'.2.2 hd B.notSynchronized
    · exact W.lret (Qc := mjQm K ad h _ h') B.exec B.bytes (B.returns.trans hr) hQ hS'.2.2 hd B.notSynchronized
    · obtain ⟨n9, hr⟩ := hr
      rcases hv with rfl | ⟨k, rfl⟩
      · exact W.aret (Qc := mjQm K ad h _ h') (v := .null) B.exec B.bytes (B.returns.trans hr) (Or.inl ⟨n9, rfl⟩) (Or.inl rfl) hQ hS'.2.2 hd B.notSynchronized
      · exact W.aret (Qc := mjQm K ad h _ h') (v := .ref (ad' k)) B.exec B.bytes (B.returns.trans hr) (Or.inl ⟨n9, rfl⟩) (Or.inr ⟨_, rfl⟩) hQ hS'.2.2 hd B.notSynchronized
    · exact W.vret (Qc := mjQm K ad h _ h') B.exec B.bytes (B.returns.trans hr) hQ hS'.2.2 hd B.notSynchronized
theorem mj_sim (hpl : ∀ i, plainName (M i).1.cls = true) (hP : ∀ i pc, mjOk K l G M (M i).1 (M i).1.cls (M i).2.1 (M i).2.2.1 (M i).2.2.2 pc (P i pc)) :
    ∀ (n d i pc : Nat) (F : MF) (o : MO) (h' : MH), mjX P (fun i => (M i).2.2.1) n d i pc F = some (o, h') → mjmono F.2.2 h' ∧ ∀ v, o = .inl v → mjSim K l G M d i pc F v h' := by
  intro n
  induction n with
  | zero => intro d i pc F o h' h; cases h
  | succ n ih =>
    intro d i pc F o h' hx
    rw [mjX] at hx
    have hcall : mjCall K l G M d (mjdn d (fun d' j as h => mjX P (fun i => (M i).2.2.1) n d' j 0 (mjini (M j).2.2.1 as, [], h))) := by
      intro j as h o h' hc
      cases d with
      | zero => cases hc
      | succ d' =>
        obtain ⟨m1, m2⟩ := ih d' j 0 _ o h' hc
        exact ⟨m1, fun v hv => ⟨d', rfl, mj_met (hpl j) m1 (m2 v hv)⟩⟩
    split at hx
    · cases hx
    · rename_i q hq
      obtain ⟨m1, m2⟩ := ih d i q.1 q.2 o h' hx
      obtain ⟨k1, k2⟩ := hP i pc d _ hcall F _ hq
      have k1 : mjmono F.2.2 q.2.2.2 := k1
      refine ⟨k1.trans m1, fun v hv => ?_⟩
      intro p e R s m args below meth c cx Q c0 s0 cells slots H locs ls ad hW hF hS h1 h2 h3 h4 kr
      refine k2 p e R s m args below meth c cx Q c0 s0 cells slots H locs ls ad hW hF hS h1 h2 (Nat.le_trans m1.2.1 h3) (Nat.le_trans m1.2.2 h4) ?_ ?_
      · intro pc' F' he ad' H' locs' ls' cells' slots' hext hW' hF' hS' g1 g2
        cases he
        refine m2 v hv p e R s m args below meth c cx Q c0 s0 cells' slots' H' locs' ls' ad' hW' hF' hS' g1 g2 h3 h4 ?_
        intro ad2 H2 locs2 ls2 cells2 slots2 ins pc2 hext2 hW2 hs2 hS2 j1 j2 hri hd
        exact kr ad2 H2 locs2 ls2 cells2 slots2 ins pc2 (hext.trans hext2 k1.1) hW2 hs2 hS2 j1 j2 hri hd
      · intro o9 h9 he
        cases he
    · rename_i r hr
      cases hx
      obtain ⟨k1, k2⟩ := hP i pc d _ hcall F _ hr
      have k1 : mjmono F.2.2 h' := k1
      refine ⟨k1, fun v hv => ?_⟩
      subst hv
      intro p e R s m args below meth c cx Q c0 s0 cells slots H locs ls ad hW hF hS h1 h2 h3 h4 kr
      refine k2 p e R s m args below meth c cx Q c0 s0 cells slots H locs ls ad hW hF hS h1 h2 h3 h4 (fun pc' F' he => by cases he) ?_
      intro o9 h9 he hh hst ins hri hd
      cases he
      have hs9 : ∀ w, v = some w → mjsc (mjN h') w := fun w hw => by
        rw [hh]
        refine hF.2.1 w ?_
        rw [hst, hw]
        exact List.mem_cons_self
      have k9 := kr ad H locs ls cells slots ins pc mjExt.rf (by rw [hh]; exact hW) hs9 hS (by rw [hh]; exact h1) (by rw [hh]; exact h2) hri hd
      rw [hst]
      exact k9
end MJ7
