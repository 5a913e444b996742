/-! methods that throw: their words, runs in part -/
def mjGC : List Cond := [Cond.code yX0_fail cX0_fail 1 none, Cond.code yX4_fail cX4_fail 1 none, Cond.code yX7_fail cX7_fail 1 none, Cond.code yX9_fail cX9_fail 1 none, Cond.code yX11_element cX11_element 4 (some .long), Cond.codeWith yX11_toss cX11_toss 5 (some .int) [(19, 23, 26, 290), (19, 23, 36, 248), (19, 23, 47, 258)], Cond.codeWith yL_element cL_element 5 (some .int) [(0, 9, 12, 13), (0, 9, 16, 15)]]
def mjnms : List String := ["java/lang/RuntimeException", "java/lang/Exception"]
def mjT4 : List Cond := vx_atS "LookAtClock$Looker" 28 "java/lang/IllegalStateException" mjnms
def mjT0 : List Cond := vx_atS "LookAtClock$Best" 21 "java/lang/UnsupportedOperationException" mjnms
def mjT7 : List Cond := vx_atS "LookAtClock$Seller" 27 "java/lang/IllegalArgumentException" mjnms
def mjTA : List Cond := vx_atS "LookAtClock" 252 "java/lang/IllegalArgumentException" mjnms
def mjTS : List Cond := vx_atS "LookAtClock" 262 "java/lang/IllegalStateException" mjnms
def mjGT : List Cond := mjT4.filter goodWord ++ (mjT0.filter goodWord ++ (mjT7.filter goodWord ++ (mjTA.filter goodWord ++ mjTS.filter goodWord)))
def mjGA : List Cond := mjGLw ++ (mjGXw ++ (mjGC ++ (mjGT ++ mjG)))
theorem mjGA_L : ∀ w ∈ mjGLw, w ∈ mjGA := fun w h => List.mem_append_left _ h
theorem mjGA_X : ∀ w ∈ mjGXw, w ∈ mjGA := fun w h => List.mem_append_right _ (List.mem_append_left _ h)
theorem mjGA_C : ∀ w ∈ mjGC, w ∈ mjGA := fun w h => List.mem_append_right _ (List.mem_append_right _ (List.mem_append_left _ h))
theorem mjGA_T : ∀ w ∈ mjGT, w ∈ mjGA := fun w h => List.mem_append_right _ (List.mem_append_right _ (List.mem_append_right _ (List.mem_append_left _ h)))
theorem mjGA_G : ∀ w ∈ mjG, w ∈ mjGA := fun w h => List.mem_append_right _ (List.mem_append_right _ (List.mem_append_right _ (List.mem_append_right _ h)))
theorem mjGC_all : mjGC.all goodWord = true := by decide +kernel
theorem mjGA_good : ∀ w ∈ mjGA, goodWord w = true := fun w h => by
  rcases List.mem_append.mp h with h | h
  · exact List.all_eq_true.mp mjGLw_all w h
  rcases List.mem_append.mp h with h | h
  · exact List.all_eq_true.mp mjGXw_all w h
  rcases List.mem_append.mp h with h | h
  · exact List.all_eq_true.mp mjGC_all w h
  rcases List.mem_append.mp h with h | h
  · unfold mjGT at h
    rcases List.mem_append.mp h with h | h
    · exact (List.mem_filter.mp h).2
    rcases List.mem_append.mp h with h | h
    · exact (List.mem_filter.mp h).2
    rcases List.mem_append.mp h with h | h
    · exact (List.mem_filter.mp h).2
    rcases List.mem_append.mp h with h | h
    · exact (List.mem_filter.mp h).2
    · exact (List.mem_filter.mp h).2
  · exact mjG_good w h
theorem mjGA_lay : mjLay mjGA := fun c q hq w hw => mjGA_G w (mjG_lay c q hq w hw)
def mjXS (PL : Nat → MOp) (call : MCall) : Nat → Nat → MF → Option (Nat × MF)
  | 0, pc, F => some (pc, F)
  | n + 1, pc, F => match PL pc call F with
    | some (.inl q) => mjXS PL call n q.1 q.2
    | _ => none
def mjcl (N d : Nat) : MCall := mjdn d (fun d' j as h => mjX mjPr mjnlc N d' j 0 (mjini (mjnlc j) as, [], h))
theorem mjcl_ok {K : MK} {l : Launch} {G : List Cond} (hsub : ∀ w ∈ mjG, w ∈ G) (N d : Nat) : mjCall K l G mjM d (mjcl N d) := by
  intro j as h o h' hc
  cases d with
  | zero => cases hc
  | succ d' =>
    obtain ⟨m1, m2⟩ := mj_sim (K := K) (l := l) (G := mjG) (M := mjM) (P := mjPr) (fun i => (mjPr_ok K l i).1) (fun i pc => (mjPr_ok K l i).2 pc) N d' j 0 _ o h' hc
    exact ⟨m1, fun v hv => ⟨d', rfl, mjCt_mono hsub (mj_met (mjPr_ok K l j).1 m1 (m2 v hv))⟩⟩
theorem mj_part {K : MK} {l : Launch} {G : List Cond} {y : MethodName} {own : String} {cc : ByteArray} {nL : Nat} {rt : Option FieldType} {PL : Nat → MOp} {d : Nat} {call : MCall} (hcall : mjCall K l G mjM d call) (hP : ∀ pc, mjOk K l G mjM y own cc nL rt pc (PL pc)) :
    ∀ (n pc : Nat) (F : MF) (pc' : Nat) (F' : MF), mjXS PL call n pc F = some (pc', F') → mjmono F.2.2 F'.2.2 ∧
      ∀ (p : Program) (e : Env) (R : Room) (s : State) (m : MethodId) (args : Array Value) (below : List Frame) (meth : Method) (c : Code), mjCx K G y own cc nL rt d p R s m args meth c →
      ∀ (Q : State → Prop) (c0 s0 cells slots : Nat) (H : Heap) (locs : List Loc) (ls : Array Slot) (ad : Nat → Nat),
      mjWd K ad F.2.2 H → mjFr K ad nL F ls → va_S (mkA K) s.heap H locs → c0 + cells = mjC F.2.2 → s0 + slots = mjS F.2.2 → mjC F'.2.2 ≤ c0 + R.cells → mjS F'.2.2 ≤ s0 + R.slots →
      (∀ (ad' : Nat → Nat) (H' : Heap) (locs' : List Loc) (ls' : Array Slot) (cells' slots' : Nat), mjExt ad ad' (mjN F.2.2) → mjWd K ad' F'.2.2 H' → mjFr K ad' nL F' ls' → va_S (mkA K) s.heap H' locs' → c0 + cells' = mjC F'.2.2 → s0 + slots' = mjS F'.2.2 → W p l e R s m args below meth c H' locs' cells' slots' Q (F0 m pc' ls' (F'.2.1.map (mjrn (mkZ K) ad')))) →
      W p l e R s m args below meth c H locs cells slots Q (F0 m pc ls (F.2.1.map (mjrn (mkZ K) ad))) := by
  intro n
  induction n with
  | zero =>
    intro pc F pc' F' hx
    cases hx
    exact ⟨mjmono.rf, fun p e R s m args below meth c cx Q c0 s0 cells slots H locs ls ad hW hF hS h1 h2 h3 h4 k => k ad H locs ls cells slots mjExt.rf hW hF hS h1 h2⟩
  | succ n ih =>
    intro pc F pc' F' hx
    rw [mjXS] at hx
    split at hx
    · rename_i q hq
      obtain ⟨m1, m2⟩ := ih q.1 q.2 pc' F' hx
      obtain ⟨k1, k2⟩ := hP pc d call hcall F _ hq
      have k1 : mjmono F.2.2 q.2.2.2 := k1
      refine ⟨k1.trans m1, ?_⟩
      intro p e R s m args below meth c cx Q c0 s0 cells slots H locs ls ad hW hF hS h1 h2 h3 h4 kr
      refine k2 p e R s m args below meth c cx Q c0 s0 cells slots H locs ls ad hW hF hS h1 h2 (Nat.le_trans m1.2.1 h3) (Nat.le_trans m1.2.2 h4) ?_ ?_
      · intro pc9 F9 he ad' H' locs' ls' cells' slots' hext hW' hF' hS' g1 g2
        cases he
        refine m2 p e R s m args below meth c cx Q c0 s0 cells' slots' H' locs' ls' ad' hW' hF' hS' g1 g2 h3 h4 ?_
        intro ad2 H2 locs2 ls2 cells2 slots2 hext2 hW2 hF2 hS2 j1 j2
        exact kr ad2 H2 locs2 ls2 cells2 slots2 (hext.trans hext2 k1.1) hW2 hF2 hS2 j1 j2
      · intro o9 h9 he
        cases he
    · cases hx
theorem mjWd_grow {K : MK} {ad : Nat → Nat} {h : MH} {H H1 : Heap} (hW : mjWd K ad h H) (hk : ∀ q : Nat, q < H.size → H1[q]? = H[q]?) : mjWd K ad h H1 := by
  obtain ⟨h1, h2⟩ := hW
  exact ⟨h1.kept fun k q hq => hk q.1 (vx_lt h1 hq), h2⟩
/-- a method's own name, with the descriptor of the law: its word is none -/
def mjyn (meth : Method) : MethodName := ⟨"", meth.name, "([I)Z"⟩
theorem mjsl_len {z : Value} (hz : z.category = 1) {ad : Nat → Nat} : ∀ (l9 : List Value), (∀ w ∈ l9, w.category = 1) → (lg_sl (l9.map (mjrn z ad))).length = l9.length := by
  intro l9
  induction l9 with
  | nil => intro _; rfl
  | cons a t ih =>
    intro hc
    have ha : (mjrn z ad a).category = 1 := by rw [mjrn_cat hz]; exact hc a List.mem_cons_self
    have e1 : lg_sl ((a :: t).map (mjrn z ad)) = [Slot.val (mjrn z ad a)] ++ lg_sl (t.map (mjrn z ad)) := by
      unfold lg_sl
      rw [List.map_cons, List.flatMap_cons, if_neg (by rw [ha]; decide)]
    rw [e1, List.length_append, ih (fun w hw => hc w (List.mem_cons_of_mem _ hw))]
    simp
    omega
/-- the first frame -/
theorem mjx_fr {K : MK} {ad : Nat → Nat} {h : MH} {as : List Value} {nL : Nat} (m : MethodId) (hz : (mkZ K).category = 1) (hsc : ∀ v ∈ as, mjsc (mjN h) v) (hn : as.length ≤ nL) (hc : ∀ v ∈ as, v.category = 1) : ∃ ls, entryFrame m (as.map (mjrn (mkZ K) ad)).toArray nL = F0 m 0 ls [] ∧ mjFr K ad nL (mjini nL as, [], h) ls := by
  have hl := lv_entry (as.map (mjrn (mkZ K) ad)) (n := nL) (by rw [mjsl_len hz as hc]; exact hn)
  refine ⟨_, lg_entry_eq .., mjini_lr hz hn hc hl, (fun w hw => by cases hw), fun w hw => ?_⟩
  unfold mjini at hw
  rcases List.mem_append.mp hw with q | q
  · obtain ⟨z, hz1, hz2⟩ := List.mem_map.mp q
    cases hz2
    exact hsc _ hz1
  · have := (List.mem_replicate.mp q).2
    cases this
theorem mjx_cx {K : MK} {l : Launch} {w0 : Cond} {rm : Room} {p : Program} {y : MethodName} {cc : ByteArray} {nL : Nat} {rt : Option FieldType} {e : Env} {s s₁ : State} {m : MethodId} {args : Array Value} {below : List Frame} {meth : Method} {c : Code} (B : BodyLoose p l y (headSpec (w0 :: mjGA) rm) cc nL rt e s m args below meth c s₁) (hml : c.maxLocals = nL) (hen : mjEn K s s.heap) (d : Nat) (r1 : 20 + d ≤ rm.frames) (r2 : 600 + 60 * d ≤ rm.locals) : mjCx K mjGA (mjyn meth) y.cls cc nL rt d p rm s m args meth c :=
  ⟨B.exec, B.bytes, hml, B.returns, fun w hw => (List.mem_cons.mp hw).elim (fun e => by rw [e]; rfl) (fun e => atoms_spec (ws := w0 :: mjGA) B.pre w (List.mem_cons_of_mem _ e)), findClass_of_methodNamed B.named, B.notSynchronized, rfl, hen, r1, r2⟩
/-- from here on the method returns -/
theorem mjx_run {K : MK} {l : Launch} {G : List Cond} {y : MethodName} {own : String} {cc : ByteArray} {nL : Nat} {rt : Option FieldType} {PL : Nat → MOp} (hsub : ∀ w ∈ mjG, w ∈ G) (hP : ∀ pc, mjOk K l G mjM y own cc nL rt pc (PL pc)) {n d pc : Nat} {F : MF} {v : Option Value} {h' : MH} (hx : mjXL PL n d pc F = some (.inl v, h'))
    {p : Program} {e : Env} {R : Room} {s : State} {m : MethodId} {args : Array Value} {below : List Frame} {meth : Method} {c : Code} (cx : mjCx K G y own cc nL rt d p R s m args meth c)
    {Qc : Array Value → State → Outcome → State → Prop} {XC : String → State → State → Prop} {c0 s0 cells slots mc ms : Nat} {H : Heap} {locs : List Loc} {ls : Array Slot} {ad : Nat → Nat}
    (hW : mjWd K ad F.2.2 H) (hF : mjFr K ad nL F ls) (hS : va_S (mkA K) s.heap H locs) (h1 : c0 + cells = mjC F.2.2) (h2 : s0 + slots = mjS F.2.2) (h3 : mjC h' ≤ c0 + mc) (h4 : mjS h' ≤ s0 + ms) (r1 : mc ≤ R.cells) (r2 : ms ≤ R.slots)
    (hQ : ∀ (ad' : Nat → Nat) (t : State), mjExt ad ad' (mjN F.2.2) → mjWd K ad' h' t.heap → (∀ w, v = some w → mjsc (mjN h') w) → va_F (mkA K) s t → Qc args s (.returned (v.map (mjrn (mkZ K) ad'))) t) :
    W p l e R s m args below meth c H locs cells slots (vx_MQ below Qc XC args s mc ms (mkA K)) (F0 m pc ls (F.2.1.map (mjrn (mkZ K) ad))) := by
  have cx0 := cx
  obtain ⟨hex, hb, hml, hr, -, -, hlk, -, -, -, -⟩ := cx0
  refine (mj_simL hsub (fun pc => mjOk.D (hP pc)) n pc F _ h' hx).2 v rfl p e R s m args below meth c cx _ c0 s0 cells slots H locs ls ad hW hF hS h1 h2 (by omega) (by omega) ?_
  intro ad' H' locs' ls' cells' slots' ins pc' he hW' hs' hS' g1 g2 hri hd
  refine W.widen (k := mc) (n := ms) (by omega) (by omega) (vx_ret ?_)
  have hQ' : ∀ t : State, t.heap = H' → s.WarmedH t.vm → Qc args s (.returned (v.map (mjrn (mkZ K) ad'))) t := fun t ht _ => hQ ad' t he (by rw [ht]; exact hW') hs' (hS'.F ht)
  rcases hri with ⟨ty, x, hr9, hn, rfl, rfl⟩ | ⟨x, hr9, rfl, rfl⟩ | ⟨hr9, rfl, hv⟩ | ⟨hr9, rfl, rfl⟩
  · exact W.zret (Qc := Qc) hex hb (hr.trans hr9) hn hQ' hS'.2.2 hd hlk
  · exact W.lret (Qc := Qc) hex hb (hr.trans hr9) hQ' hS'.2.2 hd hlk
  · obtain ⟨n9, hr9⟩ := hr9
    rcases hv with rfl | ⟨k, rfl⟩
    · exact W.aret (Qc := Qc) (v := .null) hex hb (hr.trans hr9) (Or.inl ⟨n9, rfl⟩) (Or.inl rfl) hQ' hS'.2.2 hd hlk
    · exact W.aret (Qc := Qc) (v := .ref (ad' k)) hex hb (hr.trans hr9) (Or.inl ⟨n9, rfl⟩) (Or.inr ⟨_, rfl⟩) hQ' hS'.2.2 hd hlk
  · exact W.vret (Qc := Qc) hex hb (hr.trans hr9) hQ' hS'.2.2 hd hlk
/-- what holds where a method of this kind throws -/
def mjQx (K : MK) (ad : Nat → Nat) (h : MH) (E : String) (N : Nat) : String → State → State → Prop := fun E9 st t => E9 = E ∧ (∃ ad', mjExt ad ad' N ∧ mjWd K ad' h t.heap) ∧ va_F (mkA K) st t
theorem mjQx_of {K : MK} {ad ad' : Nat → Nat} {h : MH} {E : String} {N : Nat} {s t : State} {H : Heap} {locs : List Loc} (he : mjExt ad ad' N) (hW : mjWd K ad' h H) (hS : va_S (mkA K) s.heap H locs) (hz1 : H.size ≤ t.heap.size) (hz2 : ∀ q : Nat, q < H.size → t.heap[q]? = H[q]?) : mjQx K ad h E N E s t :=
  ⟨rfl, ⟨ad', he, mjWd_grow hW hz2⟩, Nat.le_trans hS.1 hz1, fun q h1 h2 => (hz2 q (Nat.lt_of_lt_of_le h1 hS.1)).trans (hS.2.1 q h1 h2)⟩
