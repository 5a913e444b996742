/-! what the machine's state holds for all methods alike; when an operation is sound -/
def mjtys (K : MK) : List (ClassId × FieldType) := [(K.2.1.1, .int), (K.2.1.2.1, .object "LookAtClock$Looker"), (K.2.1.2.2.1, .object "LookAtClock$Row"), (K.2.1.2.2.2, .long)]
def mjhost : String := "LookAtClock"
def mjnest : List (String × Nat × MethodName) := [("LookAtClock", 11, ⟨"LookAtClock$Town", "<init>", "()V"⟩), ("LookAtClock", 28, ⟨"LookAtClock$Day", "<init>", "()V"⟩), ("LookAtClock", 55, ⟨"LookAtClock$Row", "<init>", "()V"⟩), ("LookAtClock$Cheap", 18, ⟨"LookAtClock", "cheapMinute", "(III)I"⟩), ("LookAtClock$Day", 116, ⟨"LookAtClock", "priceAt", "(II)I"⟩), ("LookAtClock$Day", 122, ⟨"LookAtClock", "reckoned", "(III)I"⟩), ("LookAtClock$Share", 7, ⟨"LookAtClock", "part", "(II)I"⟩), ("LookAtClock$Town", 64, ⟨"LookAtClock", "isMinute", "(I)Z"⟩), ("LookAtClock$Town", 67, ⟨"LookAtClock", "newLooker", "(IIIII)LLookAtClock$Looker;"⟩)]
def mjsubs : List String := ["LookAtClock$Best", "LookAtClock$Cheap", "LookAtClock$Clock", "LookAtClock$Looker", "LookAtClock$Never", "LookAtClock$Seller", "LookAtClock$Share", "LookAtClock$Told"]
def mjxE : List String := ["java/lang/IllegalStateException", "java/lang/UnsupportedOperationException", "java/lang/IllegalArgumentException"]
def mjxd : List MethodName := [⟨"java/lang/RuntimeException", "<init>", "(Ljava/lang/String;)V"⟩, ⟨"java/lang/Exception", "<init>", "(Ljava/lang/String;)V"⟩, ⟨"java/lang/Throwable", "<init>", "(Ljava/lang/String;)V"⟩]
/-- what the methods that throw need: the statics of Throwable, the texts, which class of exceptions is no other -/
def mjxs : List (String × Nat × String) := [("LookAtClock$Looker", 26, "a looker fails"), ("LookAtClock$Best", 19, "a best one fails"), ("LookAtClock$Seller", 25, "a seller fails"), ("LookAtClock", 250, "no such shelf"), ("LookAtClock", 260, "no row"), ("LookAtClock", 263, "no such place")]
def mjXc (K : MK) (s : State) (H : Heap) : Prop := (vx_Zq Bundle.tN "UNASSIGNED_STACK" Bundle.steD (mkA K) s H ∧ vx_Zq Bundle.tN "SUPPRESSED_SENTINEL" Bundle.listD (mkA K) s H) ∧ (∀ q ∈ mjxs, ∃ sa, vk_R q.1 q.2.1 q.2.2 sa s) ∧
  (va_Nc "java/lang/IllegalStateException" "java/lang/UnsupportedOperationException" s ∧ va_Nc "java/lang/IllegalArgumentException" "java/lang/UnsupportedOperationException" s ∧ va_Nc "java/lang/IllegalStateException" "java/lang/IllegalArgumentException" s ∧ (∀ c ∈ mjxE, va_Nw (.castable c c) s) ∧ (∀ x ∈ mjxd, va_Nw (.declares x) s))
/-- the Strings of the forms, and the statics that charAt reads -/
def mjSt (K : MK) (s : State) (H : Heap) : Prop :=
  vk_S 5 mjlens mjbyts (fun i => mkS K (1000000 + i)) (fun i => mkS K (1100000 + i)) (mkA K) s H ∧
  (∀ i, i < 5 → vk_R "LookAtClock" (mjtexts.getD i (0, "", [])).1 (mjtexts.getD i (0, "", [])).2.1 (mkS K (1000000 + i)) s) ∧
  va_Z "java/lang/String" "COMPACT_STRINGS" "Z" (.int 1) (mkA K) s H ∧
  (va_Z "jdk/internal/util/Preconditions" "SIOOBE_FORMATTER" "Ljava/util/function/BiFunction;" (mkZ K) (mkA K) s H ∧ (mkZ K = .null ∨ ∃ a, mkZ K = .ref a) ∧ mjXc K s H)
/-- the law's script -/
def mjSc (K : MK) (s : State) (H : Heap) : Prop := va_X (mkS K 2000000) K.2.2.2.2.2.1 K.2.2.2.2.2.2 s H ∧ mkS K 2000000 < H.size ∧ ¬ mkA K (mkS K 2000000)
def mjEn (K : MK) (s : State) (H : Heap) : Prop :=
  va_K K.1 vwCl (mjtys K) s ∧ (∀ q ∈ mjnest, va_Nw (.methodLinkNest q.1 q.2.1 q.2.2 mjhost) s) ∧ (va_AO "LookAtClock$Looker" s ∧ va_AO "LookAtClock$Row" s) ∧ (∀ c ∈ mjsubs, va_Nw (.castable c "LookAtClock$Looker") s) ∧ (∀ q, H.size ≤ q → mkA K q) ∧ mjSt K s H ∧ mjSc K s H
theorem mjEn.cat {K : MK} {s : State} {H : Heap} (h : mjEn K s H) : (mkZ K).category = 1 := by
  rcases h.2.2.2.2.2.1.2.2.2.2.1 with e | ⟨a, e⟩ <;> rw [e] <;> rfl
theorem mjEn.go {K : MK} {s U : State} {H : Heap} {locs : List Loc} (h : mjEn K s s.heap) (hS : va_S (mkA K) s.heap H locs) (hU : U.heap = H) (hW : s.WarmedH U.vm) : mjEn K U U.heap := by
  obtain ⟨h1, h2, h3, h4, h5, ⟨g1, g2, g3, g4, g5, ⟨z1, z2⟩, z3, z4, z5, z6, z7, z8⟩, ⟨x1, x2, x3⟩⟩ := h
  rw [hU]
  have hk : ∀ a : Nat, a < s.heap.size → ¬ mkA K a → H[a]? = s.heap[a]? := hS.2.1
  exact ⟨va_K.moved hW.alike h1, fun q hq => va_Nw.warmM hW (h2 q hq), ⟨va_AO.moved hW.alike h3.1, va_AO.moved hW.alike h3.2⟩, fun c hc => va_Nw.warmC hW (h4 c hc), fun q hq => h5 q (Nat.le_trans hS.1 hq), ⟨vk_S.moved hW.alike (g1.kept hk), fun i hi => vk_R.warm hW (g2 i hi), va_Z.moved hW.alike (g3.kept hk), va_Z.moved hW.alike (g4.kept hk), g5, ⟨vx_Zq.moved hW.alike (z1.kept hk), vx_Zq.moved hW.alike (z2.kept hk)⟩, fun q hq => (z3 q hq).imp fun _ h9 => vk_R.warm hW h9, va_Nc.moved hW.alike z4, va_Nc.moved hW.alike z5, va_Nc.moved hW.alike z6, fun c hc => va_Nw.warmC hW (z7 c hc), fun x hx => va_Nw.warmD hW (z8 x hx)⟩, va_X.moved hW.alike (x1.kept (hk _ x2 x3)), Nat.lt_of_lt_of_le x2 hS.1, x3⟩
theorem mjEn.blind {K : MK} {U : State} {g : JFrame} {mk : MethodId} {a : Array Value} (h : mjEn K U U.heap) : mjEn K (U.calling g mk a) (U.calling g mk a).heap := by
  obtain ⟨h1, h2, h3, h4, h5, ⟨g1, g2, g3, g4, g5, ⟨z1, z2⟩, z3, z4, z5, z6, z7, z8⟩, ⟨x1, x2, x3⟩⟩ := h
  have hv : U.vm.Alike (U.calling g mk a).vm := Vm.Alike.refl U.vm
  exact ⟨va_K.moved hv h1, fun q hq => va_Nw.same rfl rfl (h2 q hq), ⟨va_AO.moved hv h3.1, va_AO.moved hv h3.2⟩, fun c hc => va_Nw.same rfl rfl (h4 c hc), h5, ⟨vk_S.moved hv g1, fun i hi => vk_R.same rfl (g2 i hi), va_Z.moved hv g3, va_Z.moved hv g4, g5, ⟨vx_Zq.moved hv z1, vx_Zq.moved hv z2⟩, fun q hq => (z3 q hq).imp fun _ h9 => vk_R.same rfl h9, va_Nc.moved hv z4, va_Nc.moved hv z5, va_Nc.moved hv z6, fun c hc => va_Nw.same rfl rfl (z7 c hc), fun x hx => va_Nw.same rfl rfl (z8 x hx)⟩, va_X.moved hv x1, x2, x3⟩
/-- a table of methods: name, bytes, size of the locals, what comes back -/
abbrev MT : Type := Nat → MethodName × ByteArray × Nat × Option FieldType
def mjrm (d c s : Nat) : Room := { frames := 20 + d, cells := c, slots := s, locals := 600 + 60 * d }
def mjQm (K : MK) (ad : Nat → Nat) (h : MH) (o : Option Value) (h' : MH) : Array Value → State → Outcome → State → Prop := fun _ st oc t =>
  (∃ ad' : Nat → Nat, oc = .returned (o.map (mjrn (mkZ K) ad')) ∧ mjExt ad ad' (mjN h) ∧ mjWd K ad' h' t.heap ∧ ∀ v, o = some v → mjsc (mjN h') v) ∧ va_F (mkA K) st t
def mjPm (K : MK) (ad : Nat → Nat) (h : MH) (as : List Value) : Array Value → State → Prop := va_Pc (as.map (mjrn (mkZ K) ad)) (fun U => mjEn K U U.heap ∧ mjWd K ad h U.heap)
def mjmono (h h' : MH) : Prop := mjN h ≤ mjN h' ∧ mjC h ≤ mjC h' ∧ mjS h ≤ mjS h'
theorem mjmono.rf {h : MH} : mjmono h h := ⟨Nat.le_refl _, Nat.le_refl _, Nat.le_refl _⟩
theorem mjmono.trans {a b c : MH} (h : mjmono a b) (h2 : mjmono b c) : mjmono a c := ⟨Nat.le_trans h.1 h2.1, Nat.le_trans h.2.1 h2.2.1, Nat.le_trans h.2.2 h2.2.2⟩
def mjCt (K : MK) (l : Launch) (G : List Cond) (M : MT) (d j : Nat) (as : List Value) (h : MH) (o : Option Value) (h' : MH) : Prop :=
  ∀ ad : Nat → Nat, (∀ v ∈ as, mjsc (mjN h) v) → as.length ≤ (M j).2.2.1 → (∀ v ∈ as, v.category = 1) →
    Met l (M j).1 (.code (M j).1 (M j).2.1 (M j).2.2.1 (M j).2.2.2 :: G) (mjrm d (mjC h' - mjC h) (mjS h' - mjS h)) (mjPm K ad h as) (mjQm K ad h o h') (mjC h' - mjC h) (mjS h' - mjS h) (mkA K)
def mjCall (K : MK) (l : Launch) (G : List Cond) (M : MT) (d : Nat) (call : MCall) : Prop :=
  ∀ j as h o h', call j as h = some (o, h') → mjmono h h' ∧ ∀ v, o = .inl v → ∃ d', d = d' + 1 ∧ mjCt K l G M d' j as h v h'
/-- the word of a method's bytes; the law itself has none among its words -/
def mjcw (y : MethodName) (cc : ByteArray) (nL : Nat) (rt : Option FieldType) : Cond := if y.desc = "([I)Z" then Cond.tt else .code y cc nL rt
theorem mjcw_of {G : List Cond} {args : Array Value} {s : State} {y : MethodName} {cc : ByteArray} {nL : Nat} {rt : Option FieldType} (h : ∀ w ∈ (.code y cc nL rt :: G : List Cond), w.before args s = true) : ∀ w ∈ (mjcw y cc nL rt :: G : List Cond), w.before args s = true := by
  intro w hw
  rcases List.mem_cons.mp hw with e | e
  · rw [e]
    unfold mjcw
    split
    · rfl
    · exact h _ List.mem_cons_self
  · exact h _ (List.mem_cons_of_mem _ e)
/-- a method's frame on the machine -/
def mjCx (K : MK) (G : List Cond) (y : MethodName) (own : String) (cc : ByteArray) (nL : Nat) (rt : Option FieldType) (d : Nat) (p : Program) (R : Room) (s : State) (m : MethodId) (args : Array Value) (meth : Method) (c : Code) : Prop :=
  p.tables.exec = Jvm.exec ∧ c.code = cc ∧ c.maxLocals = nL ∧ meth.sig.returnType = rt ∧ (∀ w ∈ (mjcw y cc nL rt :: G : List Cond), w.before args s = true) ∧ s.vm.findClass own = some m.cls ∧ meth.locks = false ∧ meth.name = y.name ∧ mjEn K s s.heap ∧ 20 + d ≤ R.frames ∧ 600 + 60 * d ≤ R.locals
/-- which instruction gives this back -/
def mjri (rt : Option FieldType) (ins : Instr) (o : Option Value) : Prop :=
  (∃ (ty : FieldType) (v : Int32), rt = some ty ∧ narrow ty (.int v) = .int v ∧ ins = .ireturn ∧ o = some (.int v)) ∨ (∃ v : Int64, rt = some .long ∧ ins = .lreturn ∧ o = some (.long v)) ∨ ((∃ n, rt = some (.object n)) ∧ ins = .areturn ∧ (o = some .null ∨ ∃ k, o = some (.ref k))) ∨ (rt = none ∧ ins = .return_ ∧ o = none)
def mjrh : (Nat × MF) ⊕ (MO × MH) → MH
  | .inl q => q.2.2.2
  | .inr q => q.2
def mjOk (K : MK) (l : Launch) (G : List Cond) (M : MT) (y : MethodName) (own : String) (cc : ByteArray) (nL : Nat) (rt : Option FieldType) (pc : Nat) (op : MOp) : Prop :=
  ∀ (d : Nat) (call : MCall), mjCall K l G M d call → ∀ (F : MF) (res : (Nat × MF) ⊕ (MO × MH)), op call F = some res →
    mjmono F.2.2 (mjrh res) ∧
    ∀ (p : Program) (e : Env) (R : Room) (s : State) (m : MethodId) (args : Array Value) (below : List Frame) (meth : Method) (c : Code), mjCx K G y own cc nL rt d p R s m args meth c →
    ∀ (Q : State → Prop) (c0 s0 cells slots : Nat) (H : Heap) (locs : List Loc) (ls : Array Slot) (ad : Nat → Nat),
      mjWd K ad F.2.2 H → mjFr K ad nL F ls → va_S (mkA K) s.heap H locs → c0 + cells = mjC F.2.2 → s0 + slots = mjS F.2.2 → mjC (mjrh res) ≤ c0 + R.cells → mjS (mjrh res) ≤ s0 + R.slots →
      (∀ (pc' : Nat) (F' : MF), res = .inl (pc', F') → ∀ (ad' : Nat → Nat) (H' : Heap) (locs' : List Loc) (ls' : Array Slot) (cells' slots' : Nat), mjExt ad ad' (mjN F.2.2) → mjWd K ad' F'.2.2 H' → mjFr K ad' nL F' ls' → va_S (mkA K) s.heap H' locs' → c0 + cells' = mjC F'.2.2 → s0 + slots' = mjS F'.2.2 → W p l e R s m args below meth c H' locs' cells' slots' Q (F0 m pc' ls' (F'.2.1.map (mjrn (mkZ K) ad')))) →
      (∀ (o : Option Value) (h' : MH), res = .inr (.inl o, h') → h' = F.2.2 → F.2.1 = o.toList → ∀ (ins : Instr), mjri rt ins o → decode cc pc = .ok (ins, 1) → W p l e R s m args below meth c H locs cells slots Q (F0 m pc ls (F.2.1.map (mjrn (mkZ K) ad)))) →
      W p l e R s m args below meth c H locs cells slots Q (F0 m pc ls (F.2.1.map (mjrn (mkZ K) ad)))
theorem mjOk_stuck {K : MK} {l : Launch} {G : List Cond} {M : MT} {y : MethodName} {own : String} {cc : ByteArray} {nL : Nat} {rt : Option FieldType} {pc : Nat} : mjOk K l G M y own cc nL rt pc mjstuck := fun _ _ _ _ _ h => by cases h
theorem mjOk_tk {K : MK} {l : Launch} {G : List Cond} {M : MT} {y : MethodName} {own : String} {cc : ByteArray} {nL : Nat} {rt : Option FieldType} {a b : Nat → MOp} (k : Nat) (h1 : ∀ pc, mjOk K l G M y own cc nL rt pc (a pc)) (h2 : ∀ pc, mjOk K l G M y own cc nL rt pc (b pc)) : ∀ pc, mjOk K l G M y own cc nL rt pc (mjtk pc k (a pc) (b pc)) := by
  intro pc
  unfold mjtk
  cases Nat.ble pc k
  · exact h2 pc
  · exact h1 pc
theorem mjOk_te {K : MK} {l : Launch} {G : List Cond} {M : MT} {y : MethodName} {own : String} {cc : ByteArray} {nL : Nat} {rt : Option FieldType} {a : MOp} (k : Nat) (h1 : mjOk K l G M y own cc nL rt k a) : ∀ pc, mjOk K l G M y own cc nL rt pc (mjte pc k a) := by
  intro pc
  unfold mjte
  cases h : Nat.beq pc k
  · exact mjOk_stuck
  · rw [Nat.eq_of_beq_eq_true h]
    exact h1
