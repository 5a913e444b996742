/-! runs of the law -/
theorem Met_mono {l : Launch} {y : MethodName} {ws ws' : List Cond} {rm : Room} {Pc : Array Value → State → Prop} {Qc : Array Value → State → Outcome → State → Prop} {mc ms : Nat} {free : Addr → Prop} (hs : ∀ w ∈ ws, w ∈ ws') (h : Met l y ws rm Pc Qc mc ms free) : Met l y ws' rm Pc Qc mc ms free := by
  intro p e ha hcs hk s m args below hfr happ hP hK
  obtain ⟨a1, a2, a3, a4, a5, a6, a7, a8⟩ := (Spec.appliesLoose_iff hfr).mp happ
  exact h p e ha hcs hk s m args below hfr ((Spec.appliesLoose_iff hfr).mpr ⟨a1, a2, a3, a4, a5, a6, a7, atoms_intro fun w hw => atoms_spec a8 w (hs w hw)⟩) hP hK
theorem mjCt_mono {K : MK} {l : Launch} {G G' : List Cond} {M : MT} {d j : Nat} {as : List Value} {h h' : MH} {o : Option Value} (hs : ∀ w ∈ G, w ∈ G') (hc : mjCt K l G M d j as h o h') : mjCt K l G' M d j as h o h' := fun ad h1 h2 h3 => Met_mono (fun w hw => (List.mem_cons.mp hw).elim (fun e => by rw [e]; exact List.mem_cons_self) (fun e => List.mem_cons_of_mem _ (hs w e))) (hc ad h1 h2 h3)
def mjXL (PL : Nat → MOp) : Nat → Nat → Nat → MF → Option (MO × MH)
  | 0, _, _, _ => none
  | n + 1, d, pc, F => match PL pc (mjdn d (fun d' j as h => mjX mjPr mjnlc n d' j 0 (mjini (mjnlc j) as, [], h))) F with
    | none => none
    | some (.inl q) => mjXL PL n d q.1 q.2
    | some (.inr r) => some r
theorem mj_simL {K : MK} {l : Launch} {G : List Cond} {y : MethodName} {own : String} {cc : ByteArray} {nL : Nat} {rt : Option FieldType} {PL : Nat → MOp} {d : Nat} (hsub : ∀ w ∈ mjG, w ∈ G) (hP : ∀ pc, mjOkD K l G mjM d y own cc nL rt pc (PL pc)) :
    ∀ (n pc : Nat) (F : MF) (o : MO) (h' : MH), mjXL PL n d pc F = some (o, h') → mjmono F.2.2 h' ∧ ∀ v, o = .inl v →
      ∀ (p : Program) (e : Env) (R : Room) (s : State) (m : MethodId) (args : Array Value) (below : List Frame) (meth : Method) (c : Code), mjCx K G y own cc nL rt d p R s m args meth c →
      ∀ (Q : State → Prop) (c0 s0 cells slots : Nat) (H : Heap) (locs : List Loc) (ls : Array Slot) (ad : Nat → Nat),
      mjWd K ad F.2.2 H → mjFr K ad nL F ls → va_S (mkA K) s.heap H locs → c0 + cells = mjC F.2.2 → s0 + slots = mjS F.2.2 → mjC h' ≤ c0 + R.cells → mjS h' ≤ s0 + R.slots →
      (∀ (ad' : Nat → Nat) (H' : Heap) (locs' : List Loc) (ls' : Array Slot) (cells' slots' : Nat) (ins : Instr) (pc' : Nat), mjExt ad ad' (mjN F.2.2) → mjWd K ad' h' H' → (∀ w, v = some w → mjsc (mjN h') w) → va_S (mkA K) s.heap H' locs' → c0 + cells' = mjC h' → s0 + slots' = mjS h' → mjri rt ins v → decode cc pc' = .ok (ins, 1) → W p l e R s m args below meth c H' locs' cells' slots' Q (F0 m pc' ls' (v.toList.map (mjrn (mkZ K) ad')))) →
      W p l e R s m args below meth c H locs cells slots Q (F0 m pc ls (F.2.1.map (mjrn (mkZ K) ad))) := by
  intro n
  induction n with
  | zero => intro pc F o h' h; cases h
  | succ n ih =>
    intro pc F o h' hx
    rw [mjXL] at hx
    have hcall : mjCall K l G mjM d (mjdn d (fun d' j as h => mjX mjPr mjnlc n d' j 0 (mjini (mjnlc j) as, [], h))) := by
      intro j as h o h' hc
      cases d with
      | zero => cases hc
      | succ d' =>
        obtain ⟨m1, m2⟩ := mj_sim (K := K) (l := l) (G := mjG) (M := mjM) (P := mjPr) (fun i => (mjPr_ok K l i).1) (fun i pc => (mjPr_ok K l i).2 pc) n d' j 0 _ o h' hc
        exact ⟨m1, fun v hv => ⟨d', rfl, mjCt_mono hsub (mj_met (mjPr_ok K l j).1 m1 (m2 v hv))⟩⟩
    split at hx
    · cases hx
    · rename_i q hq
      obtain ⟨m1, m2⟩ := ih q.1 q.2 o h' hx
      obtain ⟨k1, k2⟩ := hP pc _ hcall F _ hq
      have k1 : mjmono F.2.2 q.2.2.2 := k1
      refine ⟨k1.trans m1, fun v hv => ?_⟩
      intro p e R s m args below meth c cx Q c0 s0 cells slots H locs ls ad hW hF hS h1 h2 h3 h4 kr
      refine k2 p e R s m args below meth c cx Q c0 s0 cells slots H locs ls ad hW hF hS h1 h2 (Nat.le_trans m1.2.1 h3) (Nat.le_trans m1.2.2 h4) ?_ ?_
      · intro pc' F' he ad' H' locs' ls' cells' slots' hext hW' hF' hS' g1 g2
        cases he
        refine m2 v hv p e R s m args below meth c cx Q c0 s0 cells' slots' H' locs' ls' ad' hW' hF' hS' g1 g2 h3 h4 ?_
        intro ad2 H2 locs2 ls2 cells2 slots2 ins pc2 hext2 hW2 hs2 hS2 j1 j2 hri hd
        exact kr ad2 H2 locs2 ls2 cells2 slots2 ins pc2 (hext.trans hext2 k1.1) hW2 hs2 hS2 j1 j2 hri hd
      · intro o9 h9 he
        cases he
    · rename_i r hr
      cases hx
      obtain ⟨k1, k2⟩ := hP pc _ hcall F _ hr
      have k1 : mjmono F.2.2 h' := k1
      refine ⟨k1, fun v hv => ?_⟩
      subst hv
      intro p e R s m args below meth c cx Q c0 s0 cells slots H locs ls ad hW hF hS h1 h2 h3 h4 kr
      refine k2 p e R s m args below meth c cx Q c0 s0 cells slots H locs ls ad hW hF hS h1 h2 h3 h4 (fun pc' F' he => by cases he) ?_
      intro o9 h9 he hh hst ins hri hd
      cases he
      have hs9 : ∀ w, v = some w → mjsc (mjN h') w := fun w hw => by
        rw [hh]
        refine hF.2.1 w ?_
        rw [hst, hw]
        exact List.mem_cons_self
      have k9 := kr ad H locs ls cells slots ins pc mjExt.rf (by rw [hh]; exact hW) hs9 hS (by rw [hh]; exact h1) (by rw [hh]; exact h2) hri hd
      rw [hst]
      exact k9
theorem mjXL_le {PL : Nat → MOp} (hm : ∀ pc, mjMn (PL pc)) {n m d pc : Nat} {F : MF} {r : MO × MH} (h : n ≤ m) (hx : mjXL PL n d pc F = some r) : mjXL PL m d pc F = some r := by
  have key : ∀ (n d pc : Nat) (F : MF) (r : MO × MH), mjXL PL n d pc F = some r → mjXL PL (n + 1) d pc F = some r := by
    intro n
    induction n with
    | zero => intro d pc F r h; cases h
    | succ n ih =>
      intro d pc F r h
      rw [mjXL] at h ⊢
      have hc : ∀ j as h x, mjdn d (fun d' j as h => mjX mjPr mjnlc n d' j 0 (mjini (mjnlc j) as, [], h)) j as h = some x → mjdn d (fun d' j as h => mjX mjPr mjnlc (n + 1) d' j 0 (mjini (mjnlc j) as, [], h)) j as h = some x := by
        intro j as h x hx
        cases d with
        | zero => cases hx
        | succ d' => exact mjX_le (Nat.le_succ _) hx
      split at h
      · cases h
      · rename_i q hq
        rw [hm pc _ _ F _ hc hq]
        exact ih _ _ _ _ h
      · rename_i q hq
        rw [hm pc _ _ F _ hc hq]
        exact h
  induction h with
  | refl => exact hx
  | step _ ih => exact key _ _ _ _ _ ih
def mjGoL (PL : Nat → MOp) (d pc : Nat) (F : MF) (r : MO × MH → Prop) : Prop := ∃ n x, mjXL PL n d pc F = some x ∧ r x
theorem mjGoL.run {PL : Nat → MOp} (k : Nat) {d pc pc' : Nat} {F F' : MF} {r : MO × MH → Prop} (h : ∀ n, mjXL PL (n + k) d pc F = mjXL PL n d pc' F') (g : mjGoL PL d pc' F' r) : mjGoL PL d pc F r := by
  obtain ⟨n, x, hn, hx⟩ := g
  exact ⟨n + k, x, (h n).trans hn, hx⟩
theorem mjGoL.ret {PL : Nat → MOp} (k : Nat) {d pc : Nat} {F : MF} {x : MO × MH} {r : MO × MH → Prop} (h : ∀ n, mjXL PL (n + k) d pc F = some x) (hx : r x) : mjGoL PL d pc F r := ⟨k, x, by have := h 0; rwa [Nat.zero_add] at this, hx⟩
theorem mjGoL.op {PL : Nat → MOp} {d pc pc' : Nat} {F F' : MF} {r : MO × MH → Prop} {o : MOp} (hp : PL pc = o) (h : ∀ call, o call F = some (.inl (pc', F'))) (g : mjGoL PL d pc' F' r) : mjGoL PL d pc F r := by
  obtain ⟨n, x, hn, hx⟩ := g
  refine ⟨n + 1, x, ?_, hx⟩
  rw [mjXL, hp, h]
  exact hn
theorem mjGoL.call {PL : Nat → MOp} (hm : ∀ pc, mjMn (PL pc)) {d pc nx n j : Nat} {al : List (Option Value)} {st : List Value} {h h' : MH} {o : Option Value} {r : MO × MH → Prop} (hp : ∀ call, PL pc call (al, st, h) = mjcont (al, st, h) n nx (call j (st.take n).reverse h)) (h1 : mjEv d j (st.take n).reverse h (.inl o) h')
    (g : mjGoL PL (d + 1) nx (al, o.toList ++ st.drop n, h') r) : mjGoL PL (d + 1) pc (al, st, h) r := by
  obtain ⟨n1, h1⟩ := h1
  obtain ⟨n2, x, h2, hx⟩ := g
  refine ⟨max n1 n2 + 1, x, ?_, hx⟩
  have h1 := mjX_le (Nat.le_max_left n1 n2) h1
  have h2 := mjXL_le hm (Nat.le_max_right n1 n2) h2
  rw [mjXL, hp]
  show (match mjcont (al, st, h) n nx (mjX mjPr mjnlc (max n1 n2) d j 0 (mjini (mjnlc j) (st.take n).reverse, [], h)) with | none => none | some (.inl q) => mjXL PL (max n1 n2) (d + 1) q.1 q.2 | some (.inr r) => some r) = some x
  rw [h1]
  exact h2
theorem mjGoL.brT {PL : Nat → MOp} {c : Prop} [Decidable c] {d a b : Nat} {F : MF} {r : MO × MH → Prop} (h : c) (g : mjGoL PL d a F r) : mjGoL PL d (bif decide c then a else b) F r := by
  rw [decide_eq_true h]
  exact g
theorem mjGoL.brF {PL : Nat → MOp} {c : Prop} [Decidable c] {d a b : Nat} {F : MF} {r : MO × MH → Prop} (h : ¬ c) (g : mjGoL PL d b F r) : mjGoL PL d (bif decide c then a else b) F r := by
  rw [decide_eq_false h]
  exact g
