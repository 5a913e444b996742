/-! calls on objects -/
section MJ6
variable {K : MK} {l : Launch} {G : List Cond} {M : MT} {y : MethodName} {own : String} {cc : ByteArray} {nL : Nat} {rt : Option FieldType} {pc : Nat}
theorem mj_splitR {n k : Nat} {st as : List Value} {ad : Nat → Nat} (h : (st.take n).reverse = .ref k :: as) : st.map (mjrn (mkZ K) ad) = (as.map (mjrn (mkZ K) ad)).reverse ++ .ref (ad k) :: (st.drop n).map (mjrn (mkZ K) ad) := by
  rw [mj_split (n := n), h, List.map_cons, List.reverse_cons, List.append_assoc]
  rfl
/-- what a call on an object comes to -/
theorem mj_callV {sel : Nat → Option Nat} {n : Nat} {d : Nat} {call : MCall} (hcall : mjCall K l G M d call) {F : MF} {res : (Nat × MF) ⊕ (MO × MH)} (hres : mjcallV sel n (pc + 3) call F = some res)
    (fin : ∀ (k j : Nat) (as : List Value), (F.2.1.take n).reverse = .ref k :: as → k < mjN F.2.2 → sel (mjT F.2.2 k).1 = some j → ∃ (y' : MethodName) (cc' : ByteArray) (nL' : Nat) (rt' : Option FieldType), mjtb G M j n y' cc' nL' rt' ∧
      ∀ (d' mc ms : Nat) (o : Option Value) (h' : MH) (p : Program) (e : Env) (R : Room) (s : State) (m : MethodId) (args : Array Value) (below : List Frame) (meth : Method) (c : Code) (H : Heap) (locs : List Loc) (cells slots : Nat) (ls : Array Slot) (ad : Nat → Nat), d = d' + 1 → mjCx K G y own cc nL rt d p R s m args meth c → mjWd K ad F.2.2 H → va_S (mkA K) s.heap H locs → ls.size = nL →
      cells + mc ≤ R.cells ∧ slots + ms ≤ R.slots → (((F.2.1.drop n).map (mjrn (mkZ K) ad)).map fun v => v.category).sum ≤ 8 →
      Met l y' (.code y' cc' nL' rt' :: G) (mjrm d' mc ms) (mjPm K ad F.2.2 (.ref k :: as)) (mjQm K ad F.2.2 o h') mc ms (mkA K) → ((mjrm d' mc ms).frames + 1 ≤ R.frames ∧ 8 + (nL' + 11) + (mjrm d' mc ms).locals ≤ R.locals) → n = as.length + 1 →
      va_Run p l e R s m args below meth c H locs cells slots mc ms (F0 m pc ls ((as.map (mjrn (mkZ K) ad)).reverse ++ .ref (ad k) :: (F.2.1.drop n).map (mjrn (mkZ K) ad))) ((F.2.1.drop n).map (mjrn (mkZ K) ad)) (mjQm K ad F.2.2 o h' (.ref (ad k) :: as.map (mjrn (mkZ K) ad)).toArray) (mkA K)) :
    mjmono F.2.2 (mjrh res) ∧
    ∀ (p : Program) (e : Env) (R : Room) (s : State) (m : MethodId) (args : Array Value) (below : List Frame) (meth : Method) (c : Code), mjCx K G y own cc nL rt d p R s m args meth c →
    ∀ (Q : State → Prop) (c0 s0 cells slots : Nat) (H : Heap) (locs : List Loc) (ls : Array Slot) (ad : Nat → Nat),
      mjWd K ad F.2.2 H → mjFr K ad nL F ls → va_S (mkA K) s.heap H locs → c0 + cells = mjC F.2.2 → s0 + slots = mjS F.2.2 → mjC (mjrh res) ≤ c0 + R.cells → mjS (mjrh res) ≤ s0 + R.slots →
      (∀ (pc' : Nat) (F' : MF), res = .inl (pc', F') → ∀ (ad' : Nat → Nat) (H' : Heap) (locs' : List Loc) (ls' : Array Slot) (cells' slots' : Nat), mjExt ad ad' (mjN F.2.2) → mjWd K ad' F'.2.2 H' → mjFr K ad' nL F' ls' → va_S (mkA K) s.heap H' locs' → c0 + cells' = mjC F'.2.2 → s0 + slots' = mjS F'.2.2 → W p l e R s m args below meth c H' locs' cells' slots' Q (F0 m pc' ls' (F'.2.1.map (mjrn (mkZ K) ad')))) →
      W p l e R s m args below meth c H locs cells slots Q (F0 m pc ls (F.2.1.map (mjrn (mkZ K) ad))) := by
  obtain ⟨al, st, h⟩ := F
  unfold mjcallV at hres
  dsimp only at hres fin ⊢
  cases hg : mjg n st
  · rw [hg] at hres
    cases hres
  rw [hg] at hres
  dsimp only [cond_true] at hres
  split at hres
  · rename_i k as hk
    cases hkN : Nat.blt k (mjN h)
    · rw [hkN] at hres
      cases hres
    rw [hkN] at hres
    dsimp only [cond_true] at hres
    split at hres
    · rename_i j hj
      obtain ⟨y', cc', nL', rt', hM, run⟩ := fin k j as hk (by simpa [Nat.blt_eq] using hkN) hj
      refine mj_call (pc := pc) (y := y) (own := own) (cc := cc) (nL := nL) (rt := rt) hcall hM hg hres ?_
      intro d' mc ms o h' p e R s m args below meth c H locs cells slots ls ad hd9 cx hW hS hsz hcs hsum hct hrm
      have hlen : (st.take n).reverse.length = n := by simp [(mjg_at hg).1]
      rw [hk] at hct hlen ⊢
      rw [mj_splitR hk]
      exact run d' mc ms o h' p e R s m args below meth c H locs cells slots ls ad hd9 cx hW hS hsz hcs hsum hct hrm (by rw [← hlen]; rfl)
    · cases hres
  · cases hres
theorem mj_recv {ad : Nat → Nat} {h : MH} {s : State} {H : Heap} {k : Nat} {q : vw_C} (hen : mjEn K s s.heap) (hW : mjWd K ad h H) (hk : k < mjN h) (hc : vwCl[(mjT h k).1]? = some q) : ∃ cell : Cell, H[ad k]? = some cell ∧ cell.vm.isStatics = false ∧ s.vm.findClass q.1 = some cell.cls :=
  va_recv hen.1 hW.1 hc ((mjw_at hk).trans (by rw [mjcel_obj hc]))
/-- how a call of x finds the method j on an object of class c -/
def mjvV (G : List Cond) (M : MT) (own : String) (idx n : Nat) (x : MethodName) (c j : Nat) : Prop :=
  ∃ (q : vw_C) (cc' : ByteArray) (nL' : Nat) (rt' : Option FieldType), vwCl[c]? = some q ∧ mjtb G M j (n + 1) x cc' nL' rt' ∧ (x.cls = q.1 ∧ x.cls ≠ "java/lang/invoke/MethodHandle" ∧ x.cls ≠ "java/lang/invoke/VarHandle" ∧ (parseMethodDescriptor x.desc).map (fun d => d.parameters.length) = some n) ∧
    Cond.methodLink own idx x ∈ G ∧ Cond.instanceMethod x ∈ G ∧ Cond.selects q.1 x x ∈ G ∧ Cond.initialized q.1 ∈ G
def mjvU (G : List Cond) (M : MT) (own : String) (idx n : Nat) (x : MethodName) (c j : Nat) : Prop :=
  ∃ (q : vw_C) (owner : String) (cc' : ByteArray) (nL' : Nat) (rt' : Option FieldType), vwCl[c]? = some q ∧ mjtb G M j (n + 1) ⟨owner, x.name, x.desc⟩ cc' nL' rt' ∧ (owner ≠ "java/lang/invoke/MethodHandle" ∧ owner ≠ "java/lang/invoke/VarHandle" ∧ (parseMethodDescriptor x.desc).map (fun d => d.parameters.length) = some n) ∧
    Cond.methodLink own idx x ∈ G ∧ Cond.sameMethod x.cls owner x.name x.desc ∈ G ∧ Cond.selects q.1 x ⟨owner, x.name, x.desc⟩ ∈ G ∧ Cond.instanceMethod ⟨owner, x.name, x.desc⟩ ∈ G ∧ Cond.initialized owner ∈ G
def mjvO (G : List Cond) (M : MT) (own : String) (idx n : Nat) (x : MethodName) (c j : Nat) : Prop :=
  ∃ (q : vw_C) (owner : String) (y' : MethodName) (cc' : ByteArray) (nL' : Nat) (rt' : Option FieldType) (b0 : ByteArray) (m0 : Nat) (r0 : Option FieldType), vwCl[c]? = some q ∧ mjtb G M j (n + 1) y' cc' nL' rt' ∧ (owner ≠ "java/lang/invoke/MethodHandle" ∧ owner ≠ "java/lang/invoke/VarHandle" ∧ (parseMethodDescriptor x.desc).map (fun d => d.parameters.length) = some n) ∧
    Cond.code ⟨owner, x.name, x.desc⟩ b0 m0 r0 ∈ G ∧ Cond.methodLink own idx x ∈ G ∧ Cond.sameMethod x.cls owner x.name x.desc ∈ G ∧ Cond.instanceMethod ⟨owner, x.name, x.desc⟩ ∈ G ∧ Cond.selects q.1 x y' ∈ G ∧ Cond.instanceMethod y' ∈ G ∧ Cond.initialized y'.cls ∈ G
theorem mjs_virt {idx n : Nat} {x : MethodName} {L : List (Nat × Nat)} (hG : ∀ w ∈ G, goodWord w = true) (hd : decode cc pc = .ok (.invokevirtual idx, 3)) (hL : ∀ q ∈ L, mjvV G M own idx n x q.1 q.2 ∨ mjvU G M own idx n x q.1 q.2 ∨ mjvO G M own idx n x q.1 q.2) : mjOk K l G M y own cc nL rt pc (mjcallV (fun c => mjlk c L) (n + 1) (pc + 3)) := by
  intro d call hcall F res hres
  obtain ⟨k1, k2⟩ := mj_callV (pc := pc) (y := y) (own := own) (cc := cc) (nL := nL) (rt := rt) hcall hres (by
    intro k j as hk hkN hj
    rcases hL _ (mjlk_in hj) with ⟨q, cc', nL', rt', hq, hM, hdd, w1, w2, w3, w4⟩ | ⟨q, owner, cc', nL', rt', hq, hM, hdd, w1, w2, w3, w4, w5⟩ | ⟨q, owner, y', cc', nL', rt', b0, m0, r0, hq, hM, hdd, w0, w1, w2, w3, w4, w5, w6⟩
    · refine ⟨x, cc', nL', rt', hM, ?_⟩
      intro d' mc ms o h' p e R s m args below meth c H locs cells slots ls ad hd9 cx hW hS hsz hcs hsum hct hrm hn
      obtain ⟨hx, hb, hml, hr, hts, hown, hlk, hnm, hen, -⟩ := cx
      refine va_runV (C := q.1) (As := as.map (mjrn (mkZ K) ad)) ⟨hx, hb, hml, hown, hts⟩ hct (cwV n hts (mj_gi hG (fun w hw => ?_)) rfl rfl rfl hdd hrm) ⟨mjPm_blind, mj_recv hen hW hkN hq, mjPm_at hen hS hW⟩ rfl (by rw [List.length_map]; omega) hsz rfl (lv_room hsum) hd hcs
      simp only [wsV, List.mem_append, List.mem_cons, List.not_mem_nil, or_false] at hw
      rcases hw with (rfl | rfl | rfl | rfl) | rfl | hw
      · exact w1
      · exact w2
      · exact w3
      · exact w4
      · exact hM.2.1
      · exact hw
    · refine ⟨⟨owner, x.name, x.desc⟩, cc', nL', rt', hM, ?_⟩
      intro d' mc ms o h' p e R s m args below meth c H locs cells slots ls ad hd9 cx hW hS hsz hcs hsum hct hrm hn
      obtain ⟨hx, hb, hml, hr, hts, hown, hlk, hnm, hen, -⟩ := cx
      refine va_runU (C := q.1) (As := as.map (mjrn (mkZ K) ad)) ⟨hx, hb, hml, hown, hts⟩ hct (va_cwU (owner := owner) (x := x) n hts (mj_gi hG (fun w hw => ?_)) rfl rfl rfl rfl hdd hrm) ⟨mjPm_blind, mj_recv hen hW hkN hq, mjPm_at hen hS hW⟩ rfl (by rw [List.length_map]; omega) hsz rfl (lv_room hsum) hd hcs
      simp only [va_wsU, List.mem_append, List.mem_cons, List.not_mem_nil, or_false] at hw
      rcases hw with (rfl | rfl | rfl | rfl | rfl) | rfl | hw
      · exact w1
      · exact w2
      · exact w3
      · exact w4
      · exact w5
      · exact hM.2.1
      · exact hw
    · refine ⟨y', cc', nL', rt', hM, ?_⟩
      intro d' mc ms o h' p e R s m args below meth c H locs cells slots ls ad hd9 cx hW hS hsz hcs hsum hct hrm hn
      obtain ⟨hx, hb, hml, hr, hts, hown, hlk, hnm, hen, -⟩ := cx
      refine va_runU (C := q.1) (As := as.map (mjrn (mkZ K) ad)) ⟨hx, hb, hml, hown, hts⟩ hct (va_cwO (owner := owner) (x := x) n hts (mj_gi hG (fun w hw => ?_)) rfl rfl rfl (List.mem_cons_of_mem _ w0) hdd hrm) ⟨mjPm_blind, mj_recv hen hW hkN hq, mjPm_at hen hS hW⟩ rfl (by rw [List.length_map]; omega) hsz rfl (lv_room hsum) hd hcs
      simp only [va_wsO, List.mem_append, List.mem_cons, List.not_mem_nil, or_false] at hw
      rcases hw with (rfl | rfl | rfl | rfl | rfl | rfl) | rfl | hw
      · exact w1
      · exact w2
      · exact w3
      · exact w4
      · exact w5
      · exact w6
      · exact hM.2.1
      · exact hw)
  exact ⟨k1, fun p e R s m args below meth c cx Q c0 s0 cells slots H locs ls ad hW hF hS h1 h2 h3 h4 kn kr => k2 p e R s m args below meth c cx Q c0 s0 cells slots H locs ls ad hW hF hS h1 h2 h3 h4 kn⟩
/-- a constructor's call -/
theorem mjs_init {j n idx : Nat} {y' : MethodName} {cc' : ByteArray} {nL' : Nat} (hG : ∀ w ∈ G, goodWord w = true) (hd : decode cc pc = .ok (.invokespecial idx, 3)) (hM : mjtb G M j (n + 1) y' cc' nL' none) (w1 : Cond.methodLink own idx y' ∈ G) (w2 : Cond.instanceMethod y' ∈ G) (w3 : Cond.initialized y'.cls ∈ G) (hnm : y'.name = "<init>")
    (hdd : y'.cls ≠ "java/lang/invoke/MethodHandle" ∧ y'.cls ≠ "java/lang/invoke/VarHandle" ∧ (parseMethodDescriptor y'.desc).map (fun d => d.parameters.length) = some n) : mjOk K l G M y own cc nL rt pc (mjcallV (fun _ => some j) (n + 1) (pc + 3)) := by
  intro d call hcall F res hres
  obtain ⟨k1, k2⟩ := mj_callV (pc := pc) (y := y) (own := own) (cc := cc) (nL := nL) (rt := rt) hcall hres (by
    intro k j' as hk hkN hj
    cases hj
    refine ⟨y', cc', nL', none, hM, ?_⟩
    intro d' mc ms o h' p e R s m args below meth c H locs cells slots ls ad hd9 cx hW hS hsz hcs hsum hct hrm hn
    obtain ⟨hx, hb, hml, hr, hts, hown, hlk, hnm9, hen, -⟩ := cx
    have w9 : ∀ w ∈ G, w.before args s = true := fun w hw => hts w (List.mem_cons_of_mem _ hw)
    exact va_runI (As := as.map (mjrn (mkZ K) ad)) ⟨hx, hb, hml, hown, hts⟩ hct ⟨callB_of n hts (mj_gi hG (mj_cG hM.2.1)) rfl rfl rfl (w9 _ w3) (w9 _ w1) hdd hrm, hnm, w9 _ w2⟩ ⟨mjPm_blind, mjPm_at hen hS hW⟩ rfl (by rw [List.length_map]; omega) hsz rfl (lv_room hsum) hd hcs)
  exact ⟨k1, fun p e R s m args below meth c cx Q c0 s0 cells slots H locs ls ad hW hF hS h1 h2 h3 h4 kn kr => k2 p e R s m args below meth c cx Q c0 s0 cells slots H locs ls ad hW hF hS h1 h2 h3 h4 kn⟩
/-- a nest mate's private constructor -/
theorem mjs_initN {j n idx : Nat} {y' : MethodName} {cc' : ByteArray} {nL' : Nat} (hG : ∀ w ∈ G, goodWord w = true) (hd : decode cc pc = .ok (.invokespecial idx, 3)) (hM : mjtb G M j (n + 1) y' cc' nL' none) (w1 : (own, idx, y') ∈ mjnest) (w2 : Cond.instanceMethod y' ∈ G) (w3 : Cond.initialized y'.cls ∈ G) (hnm : y'.name = "<init>")
    (hdd : y'.cls ≠ "java/lang/invoke/MethodHandle" ∧ y'.cls ≠ "java/lang/invoke/VarHandle" ∧ (parseMethodDescriptor y'.desc).map (fun d => d.parameters.length) = some n) : mjOk K l G M y own cc nL rt pc (mjcallV (fun _ => some j) (n + 1) (pc + 3)) := by
  intro d call hcall F res hres
  obtain ⟨k1, k2⟩ := mj_callV (pc := pc) (y := y) (own := own) (cc := cc) (nL := nL) (rt := rt) hcall hres (by
    intro k j' as hk hkN hj
    cases hj
    refine ⟨y', cc', nL', none, hM, ?_⟩
    intro d' mc ms o h' p e R s m args below meth c H locs cells slots ls ad hd9 cx hW hS hsz hcs hsum hct hrm hn
    obtain ⟨hx, hb, hml, hr, hts, hown, hlk, hnm9, hen, -⟩ := cx
    have w9 : ∀ w ∈ G, w.before args s = true := fun w hw => hts w (List.mem_cons_of_mem _ hw)
    exact va_runIN (As := as.map (mjrn (mkZ K) ad)) (host := mjhost) ⟨hx, hb, hml, hown, hts⟩ hct ⟨va_cnB n hts (mj_gi hG (mj_cG hM.2.1)) rfl rfl rfl (hen.2.1 _ w1) (w9 _ w3) hdd hrm, hnm, w9 _ w2⟩ ⟨mjPm_blind, mjPm_at hen hS hW⟩ rfl (by rw [List.length_map]; omega) hsz rfl (lv_room hsum) hd hcs)
  exact ⟨k1, fun p e R s m args below meth c cx Q c0 s0 cells slots H locs ls ad hW hF hS h1 h2 h3 h4 kn kr => k2 p e R s m args below meth c cx Q c0 s0 cells slots H locs ls ad hW hF hS h1 h2 h3 h4 kn⟩
/-- a call of the class above's method -/
theorem mjs_super {j n idx : Nat} {y' : MethodName} {cc' : ByteArray} {nL' : Nat} {rt' : Option FieldType} {L : List (Nat × Nat)} (hG : ∀ w ∈ G, goodWord w = true) (hd : decode cc pc = .ok (.invokespecial idx, 3)) (hM : mjtb G M j (n + 1) y' cc' nL' rt') (hL : ∀ q ∈ L, q.2 = j ∧ ∃ r, vwCl[q.1]? = some r) (w1 : Cond.methodLink own idx y' ∈ G) (w2 : Cond.sameMethod y'.cls y'.cls y'.name y'.desc ∈ G) (w3 : Cond.superclass own y'.cls ∈ G) (w4 : Cond.instanceMethod y' ∈ G) (w5 : Cond.initialized y'.cls ∈ G)
    (hdd : y'.name ≠ "<init>" ∧ (parseMethodDescriptor y'.desc).map (fun d => d.parameters.length) = some n) : mjOk K l G M y own cc nL rt pc (mjcallV (fun c => mjlk c L) (n + 1) (pc + 3)) := by
  intro d call hcall F res hres
  obtain ⟨k1, k2⟩ := mj_callV (pc := pc) (y := y) (own := own) (cc := cc) (nL := nL) (rt := rt) hcall hres (by
    intro k j' as hk hkN hj
    obtain ⟨e1, q, hq⟩ := hL _ (mjlk_in hj)
    dsimp only at e1 hq
    subst e1
    refine ⟨y', cc', nL', rt', hM, ?_⟩
    intro d' mc ms o h' p e R s m args below meth c H locs cells slots ls ad hd9 cx hW hS hsz hcs hsum hct hrm hn
    obtain ⟨hx, hb, hml, hr, hts, hown, hlk, hnm9, hen, -⟩ := cx
    refine va_runSU (C := q.1) (As := as.map (mjrn (mkZ K) ad)) (hen.1.1 _ _ hq).2 ⟨hx, hb, hml, hown, hts⟩ hct (va_cwSU n hts (mj_gi hG (fun w hw => ?_)) rfl rfl rfl hdd hrm) ⟨mjPm_blind, mj_recv hen hW hkN hq, mjPm_at hen hS hW⟩ rfl (by rw [List.length_map]; omega) hsz rfl (lv_room hsum) hd hcs
    simp only [va_wsSU, List.mem_append, List.mem_cons, List.not_mem_nil, or_false] at hw
    rcases hw with (rfl | rfl | rfl | rfl | rfl) | rfl | hw
    · exact w1
    · exact w2
    · exact w3
    · exact w4
    · exact w5
    · exact hM.2.1
    · exact hw)
  exact ⟨k1, fun p e R s m args below meth c cx Q c0 s0 cells slots H locs ls ad hW hF hS h1 h2 h3 h4 kn kr => k2 p e R s m args below meth c cx Q c0 s0 cells slots H locs ls ad hW hF hS h1 h2 h3 h4 kn⟩
end MJ6
