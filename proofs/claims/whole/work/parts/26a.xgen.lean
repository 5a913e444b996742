/-! methods that throw: their words, runs in part -/
def mjGC : List Cond := [Cond.code yX0_fail cX0_fail 1 none, Cond.code yX4_fail cX4_fail 1 none, Cond.code yX7_fail cX7_fail 1 none, Cond.code yX9_fail cX9_fail 1 none, Cond.code yX11_element cX11_element 4 (some .long), Cond.codeWith yX11_toss cX11_toss 5 (some .int) [(19, 23, 26, 287), (19, 23, 36, 248), (19, 23, 47, 255)], Cond.codeWith yL_element cL_element 5 (some .int) [(0, 9, 12, 13), (0, 9, 16, 15)]]
def mjnms : List String := ["java/lang/RuntimeException", "java/lang/Exception"]
def mjT4 : List Cond := vx_atS "LookAtClock$Looker" 28 "java/lang/IllegalStateException" mjnms
def mjT0 : List Cond := vx_atS "LookAtClock$Best" 21 "java/lang/UnsupportedOperationException" mjnms
def mjT7 : List Cond := vx_atS "LookAtClock$Seller" 27 "java/lang/IllegalArgumentException" mjnms
def mjTA : List Cond := vx_atS "LookAtClock" 252 "java/lang/IllegalArgumentException" mjnms
def mjTS : List Cond := vx_atS "LookAtClock" 259 "java/lang/IllegalStateException" mjnms
def mjGT : List Cond := mjT4.filter goodWord ++ (mjT0.filter goodWord ++ (mjT7.filter goodWord ++ (mjTA.filter goodWord ++ mjTS.filter goodWord)))
def mjGA : List Cond := mjGLw ++ (mjGXw ++ (mjGC ++ (mjGT ++ mjG)))
theorem mjGA_L : ∀ w ∈ mjGLw, w ∈ mjGA := fun w h => List.mem_append_left _ h
theorem mjGA_X : ∀ w ∈ mjGXw, w ∈ mjGA := fun w h => List.mem_append_right _ (List.mem_append_left _ h)
theorem mjGA_C : ∀ w ∈ mjGC, w ∈ mjGA := fun w h => List.mem_append_right _ (List.mem_append_right _ (List.mem_append_left _ h))
theorem mjGA_T : ∀ w ∈ mjGT, w ∈ mjGA := fun w h => List.mem_append_right _ (List.mem_append_right _ (List.mem_append_right _ (List.mem_append_left _ h)))
theorem mjGA_G : ∀ w ∈ mjG, w ∈ mjGA := fun w h => List.mem_append_right _ (List.mem_append_right _ (List.mem_append_right _ (List.mem_append_right _ h)))
theorem mjGC_all : mjGC.all goodWord = true := by decide +kernel
theorem mjGA_good : ∀ w ∈ mjGA, goodWord w = true := fun w h => by
  rcases List.mem_append.mp h with h | h
  · exact List.all_eq_true.mp mjGLw_all w h
  rcases List.mem_append.mp h with h | h
  · exact List.all_eq_true.mp mjGXw_all w h
  rcases List.mem_append.mp h with h | h
  · exact List.all_eq_true.mp mjGC_all w h
  rcases List.mem_append.mp h with h | h
  · unfold mjGT at h
    rcases List.mem_append.mp h with h | h
    · exact (List.mem_filter.mp h).2
    rcases List.mem_append.mp h with h | h
    · exact (List.mem_filter.mp h).2
    rcases List.mem_append.mp h with h | h
    · exact (List.mem_filter.mp h).2
    rcases List.mem_append.mp h with h | h
    · exact (List.mem_filter.mp h).2
    · exact (List.mem_filter.mp h).2
  · exact mjG_good w h
theorem mjGA_lay : mjLay mjGA := fun c q hq w hw => mjGA_G w (mjG_lay c q hq w hw)
def mjXS (PL : Nat → MOp) (call : MCall) : Nat → Nat → MF → Option (Nat × MF)
  | 0, pc, F => some (pc, F)
  | n + 1, pc, F => match PL pc call F with
    | some (.inl q) => mjXS PL call n q.1 q.2
    | _ => none
def mjcl (N d : Nat) : MCall := mjdn d (fun d' j as h => mjX mjPr mjnlc N d' j 0 (mjini (mjnlc j) as, [], h))
theorem mjcl_ok {K : MK} {l : Launch} {G : List Cond} (hsub : ∀ w ∈ mjG, w ∈ G) (N d : Nat) : mjCall K l G mjM d (mjcl N d) := by
  intro j as h o h' hc
  cases d with
  | zero => cases hc
  | succ d' =>
    obtain ⟨m1, m2⟩ := mj_sim (K := K) (l := l) (G := mjG) (M := mjM) (P := mjPr) (fun i => (mjPr_ok K l i).1) (fun i pc => (mjPr_ok K l i).2 pc) N d' j 0 _ o h' hc
    exact ⟨m1, fun v hv => ⟨d', rfl, mjCt_mono hsub (mj_met (mjPr_ok K l j).1 m1 (m2 v hv))⟩⟩
theorem mj_part {K : MK} {l : Launch} {G : List Cond} {y : MethodName} {own : String} {cc : ByteArray} {nL : Nat} {rt : Option FieldType} {PL : Nat → MOp} {d : Nat} {call : MCall} (hcall : mjCall K l G mjM d call) (hP : ∀ pc, mjOk K l G mjM y own cc nL rt pc (PL pc)) :
    ∀ (n pc : Nat) (F : MF) (pc' : Nat) (F' : MF), mjXS PL call n pc F = some (pc', F') → mjmono F.2.2 F'.2.2 ∧
      ∀ (p : Program) (e : Env) (R : Room) (s : State) (m : MethodId) (args : Array Value) (below : List Frame) (meth : Method) (c : Code), mjCx K G y own cc nL rt d p R s m args meth c →
      ∀ (Q : State → Prop) (c0 s0 cells slots : Nat) (H : Heap) (locs : List Loc) (ls : Array Slot) (ad : Nat → Nat),
      mjWd K ad F.2.2 H → mjFr K ad nL F ls → va_S (mkA K) s.heap H locs → c0 + cells = mjC F.2.2 → s0 + slots = mjS F.2.2 → mjC F'.2.2 ≤ c0 + R.cells → mjS F'.2.2 ≤ s0 + R.slots →
      (∀ (ad' : Nat → Nat) (H' : Heap) (locs' : List Loc) (ls' : Array Slot) (cells' slots' : Nat), mjExt ad ad' (mjN F.2.2) → mjWd K ad' F'.2.2 H' → mjFr K ad' nL F' ls' → va_S (mkA K) s.heap H' locs' → c0 + cells' = mjC F'.2.2 → s0 + slots' = mjS F'.2.2 → W p l e R s m args below meth c H' locs' cells' slots' Q (F0 m pc' ls' (F'.2.1.map (mjrn (mkZ K) ad')))) →
      W p l e R s m args below meth c H locs cells slots Q (F0 m pc ls (F.2.1.map (mjrn (mkZ K) ad))) := by
  intro n
  induction n with
  | zero =>
    intro pc F pc' F' hx
    cases hx
    exact ⟨mjmono.rf, fun p e R s m args below meth c cx Q c0 s0 cells slots H locs ls ad hW hF hS h1 h2 h3 h4 k => k ad H locs ls cells slots mjExt.rf hW hF hS h1 h2⟩
  | succ n ih =>
    intro pc F pc' F' hx
    rw [mjXS] at hx
    split at hx
    · rename_i q hq
      obtain ⟨m1, m2⟩ := ih q.1 q.2 pc' F' hx
      obtain ⟨k1, k2⟩ := hP pc d call hcall F _ hq
      have k1 : mjmono F.2.2 q.2.2.2 := k1
      refine ⟨k1.trans m1, ?_⟩
      intro p e R s m args below meth c cx Q c0 s0 cells slots H locs ls ad hW hF hS h1 h2 h3 h4 kr
      refine k2 p e R s m args below meth c cx Q c0 s0 cells slots H locs ls ad hW hF hS h1 h2 (Nat.le_trans m1.2.1 h3) (Nat.le_trans m1.2.2 h4) ?_ ?_
      · intro pc9 F9 he ad' H' locs' ls' cells' slots' hext hW' hF' hS' g1 g2
        cases he
        refine m2 p e R s m args below meth c cx Q c0 s0 cells' slots' H' locs' ls' ad' hW' hF' hS' g1 g2 h3 h4 ?_
        intro ad2 H2 locs2 ls2 cells2 slots2 hext2 hW2 hF2 hS2 j1 j2
        exact kr ad2 H2 locs2 ls2 cells2 slots2 (hext.trans hext2 k1.1) hW2 hF2 hS2 j1 j2
      · intro o9 h9 he
        cases he
    · cases hx
theorem mjWd_grow {K : MK} {ad : Nat → Nat} {h : MH} {H H1 : Heap} (hW : mjWd K ad h H) (hk : ∀ q : Nat, q < H.size → H1[q]? = H[q]?) : mjWd K ad h H1 := by
  obtain ⟨h1, h2⟩ := hW
  exact ⟨h1.kept fun k q hq => hk q.1 (vx_lt h1 hq), h2⟩
/-- a method's own name, with the descriptor of the law: its word is none -/
def mjyn (meth : Method) : MethodName := ⟨"", meth.name, "([I)Z"⟩
