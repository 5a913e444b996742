/-! operations that leave the cells as they are -/
section MJ1
variable {K : MK} {l : Launch} {G : List Cond} {M : MT} {y : MethodName} {own : String} {cc : ByteArray} {nL : Nat} {rt : Option FieldType} {pc : Nat}
theorem mjFr_st {ad : Nat → Nat} {al : List (Option Value)} {st st' : List Value} {h : MH} {ls : Array Slot} (hF : mjFr K ad nL (al, st, h) ls) (hs : ∀ v ∈ st', mjsc (mjN h) v) : mjFr K ad nL (al, st', h) ls := ⟨hF.1, hs, hF.2.2⟩
theorem mjsc_i {N : Nat} {x : Int32} {r : List Value} (h : ∀ v ∈ r, mjsc N v) : ∀ v ∈ (.int x :: r : List Value), mjsc N v := fun v hv => (List.mem_cons.mp hv).elim (fun e => by rw [e]; exact trivial) (h v)
theorem mjsc_l {N : Nat} {x : Int64} {r : List Value} (h : ∀ v ∈ r, mjsc N v) : ∀ v ∈ (.long x :: r : List Value), mjsc N v := fun v hv => (List.mem_cons.mp hv).elim (fun e => by rw [e]; exact trivial) (h v)
theorem mjsc_c {N : Nat} {x : Value} {r : List Value} (hx : mjsc N x) (h : ∀ v ∈ r, mjsc N v) : ∀ v ∈ (x :: r : List Value), mjsc N v := fun v hv => (List.mem_cons.mp hv).elim (fun e => by rw [e]; exact hx) (h v)
theorem mjsc_t {N : Nat} {x : Value} {r : List Value} (h : ∀ v ∈ (x :: r : List Value), mjsc N v) : ∀ v ∈ r, mjsc N v := fun v hv => h v (List.mem_cons_of_mem _ hv)
theorem mjsc_h {N : Nat} {x : Value} {r : List Value} (h : ∀ v ∈ (x :: r : List Value), mjsc N v) : mjsc N x := h x List.mem_cons_self
theorem mjsc_set {N : Nat} {al : List (Option Value)} {i : Nat} {x : Value} (hx : mjsc N x) (h : ∀ v, some v ∈ al → mjsc N v) : ∀ v, some v ∈ al.set i (some x) → mjsc N v := fun v hv => (List.mem_or_eq_of_mem_set hv).elim (h v) (fun e => by cases e; exact hx)
theorem mjsc_set0 {N : Nat} {al : List (Option Value)} {i : Nat} (h : ∀ v, some v ∈ al → mjsc N v) : ∀ v, some v ∈ al.set i none → mjsc N v := fun v hv => (List.mem_or_eq_of_mem_set hv).elim (h v) (fun e => by cases e)
theorem mjlr_at {z : Value} {ad : Nat → Nat} {al : List (Option Value)} {ls : Array Slot} {i : Nat} {v : Value} (h : mjlr z ad nL al ls) (hi : al[i]? = some (some v)) : ls[i]? = some (Slot.val (mjrn z ad v)) := (h.2.2.2 i v hi).1
/-- one that leaves the cells as they are -/
theorem mjOk_same {op : MOp} (hop : ∀ (call : MCall) (F : MF) (res : (Nat × MF) ⊕ (MO × MH)), op call F = some res → ∃ (pc' : Nat) (F' : MF), res = .inl (pc', F') ∧ F'.2.2 = F.2.2 ∧
    ∀ (d : Nat) (p : Program) (e : Env) (R : Room) (s : State) (m : MethodId) (args : Array Value) (below : List Frame) (meth : Method) (c : Code), mjCx K G y own cc nL rt d p R s m args meth c →
    ∀ (Q : State → Prop) (cells slots : Nat) (H : Heap) (locs : List Loc) (ls : Array Slot) (ad : Nat → Nat), mjWd K ad F.2.2 H → mjFr K ad nL F ls → va_S (mkA K) s.heap H locs → cells ≤ R.cells → slots ≤ R.slots →
      (∀ ls' : Array Slot, mjFr K ad nL F' ls' → W p l e R s m args below meth c H locs cells slots Q (F0 m pc' ls' (F'.2.1.map (mjrn (mkZ K) ad)))) →
      W p l e R s m args below meth c H locs cells slots Q (F0 m pc ls (F.2.1.map (mjrn (mkZ K) ad)))) : mjOk K l G M y own cc nL rt pc op := by
  intro d call hc F res hres
  obtain ⟨pc', F', rfl, hh, hw⟩ := hop call F res hres
  refine ⟨by show mjmono _ F'.2.2; rw [hh]; exact mjmono.rf, ?_⟩
  intro p e R s m args below meth c cx Q c0 s0 cells slots H locs ls ad hW hF hS h1 h2 h3 h4 kn kr
  refine hw d p e R s m args below meth c cx Q cells slots H locs ls ad hW hF hS ?_ ?_ (fun ls' hF' => kn pc' F' rfl ad H locs ls' cells slots mjExt.rf (by rw [hh]; exact hW) hF' hS (by rw [hh]; exact h1) (by rw [hh]; exact h2))
  · have h3 : mjC F'.2.2 ≤ c0 + R.cells := h3
    rw [hh] at h3
    omega
  · have h4 : mjS F'.2.2 ≤ s0 + R.slots := h4
    rw [hh] at h4
    omega
theorem mjs_iconst {n : Int} {v : Int32} (hd : decode cc pc = .ok (.iconst n, 1)) (hv : Int32.ofInt n = v) : mjOk K l G M y own cc nL rt pc (mjpush (.int v) (pc + 1)) := by
  refine mjOk_same fun call F res hres => ?_
  obtain ⟨al, st, h⟩ := F
  cases hres
  refine ⟨_, _, rfl, rfl, fun d p e R s m args below meth c cx Q cells slots H locs ls ad hW hF hS hcl hsl k => ?_⟩
  obtain ⟨hx, hb, -⟩ := cx
  refine lv_iconst hx hb hd hv ?_
  exact k ls (mjFr_st hF (mjsc_c trivial hF.2.1))
theorem mjs_bipush {n : Int} {v : Int32} (hd : decode cc pc = .ok (.bipush n, 2)) (hv : (Int8.ofInt n).toInt32 = v) : mjOk K l G M y own cc nL rt pc (mjpush (.int v) (pc + 2)) := by
  refine mjOk_same fun call F res hres => ?_
  obtain ⟨al, st, h⟩ := F
  cases hres
  refine ⟨_, _, rfl, rfl, fun d p e R s m args below meth c cx Q cells slots H locs ls ad hW hF hS hcl hsl k => ?_⟩
  obtain ⟨hx, hb, -⟩ := cx
  refine lv_bipush hx hb hd hv ?_
  exact k ls (mjFr_st hF (mjsc_c trivial hF.2.1))
theorem mjs_sipush {n : Int} {v : Int32} (hd : decode cc pc = .ok (.sipush n, 3)) (hv : (Int16.ofInt n).toInt32 = v) : mjOk K l G M y own cc nL rt pc (mjpush (.int v) (pc + 3)) := by
  refine mjOk_same fun call F res hres => ?_
  obtain ⟨al, st, h⟩ := F
  cases hres
  refine ⟨_, _, rfl, rfl, fun d p e R s m args below meth c cx Q cells slots H locs ls ad hW hF hS hcl hsl k => ?_⟩
  obtain ⟨hx, hb, -⟩ := cx
  refine lv_sipush hx hb hd hv ?_
  exact k ls (mjFr_st hF (mjsc_c trivial hF.2.1))
theorem mjs_lconst {n : Fin 2} {v : Int64} (hd : decode cc pc = .ok (.lconst n, 1)) (hv : Int64.ofNat (n : Nat) = v) : mjOk K l G M y own cc nL rt pc (mjpush (.long v) (pc + 1)) := by
  refine mjOk_same fun call F res hres => ?_
  obtain ⟨al, st, h⟩ := F
  cases hres
  refine ⟨_, _, rfl, rfl, fun d p e R s m args below meth c cx Q cells slots H locs ls ad hW hF hS hcl hsl k => ?_⟩
  obtain ⟨hx, hb, -⟩ := cx
  refine lv_lconst hx hb hd hv ?_
  exact k ls (mjFr_st hF (mjsc_c trivial hF.2.1))
theorem mjs_null (hd : decode cc pc = .ok (.aconst_null, 1)) : mjOk K l G M y own cc nL rt pc (mjpush (.null) (pc + 1)) := by
  refine mjOk_same fun call F res hres => ?_
  obtain ⟨al, st, h⟩ := F
  cases hres
  refine ⟨_, _, rfl, rfl, fun d p e R s m args below meth c cx Q cells slots H locs ls ad hW hF hS hcl hsl k => ?_⟩
  obtain ⟨hx, hb, -⟩ := cx
  refine lv_null hx hb hd ?_
  exact k ls (mjFr_st hF (mjsc_c trivial hF.2.1))
theorem mjs_ldc {idx : Nat} {v : Int32} (hd : decode cc pc = .ok (.ldc idx, 2)) (hw : Cond.constant own idx v ∈ G) : mjOk K l G M y own cc nL rt pc (mjpush (.int v) (pc + 2)) := by
  refine mjOk_same fun call F res hres => ?_
  obtain ⟨al, st, h⟩ := F
  cases hres
  refine ⟨_, _, rfl, rfl, fun d p e R s m args below meth c cx Q cells slots H locs ls ad hW hF hS hcl hsl k => ?_⟩
  obtain ⟨hx, hb, hml, hr, hts, hown, -⟩ := cx
  refine lv_ldc hx hb hown (hts _ (List.mem_cons_of_mem _ hw)) hd ?_
  exact k ls (mjFr_st hF (mjsc_i hF.2.1))
theorem mjs_ldc_w {idx : Nat} {v : Int32} (hd : decode cc pc = .ok (.ldc_w idx, 3)) (hw : Cond.constant own idx v ∈ G) : mjOk K l G M y own cc nL rt pc (mjpush (.int v) (pc + 3)) := by
  refine mjOk_same fun call F res hres => ?_
  obtain ⟨al, st, h⟩ := F
  cases hres
  refine ⟨_, _, rfl, rfl, fun d p e R s m args below meth c cx Q cells slots H locs ls ad hW hF hS hcl hsl k => ?_⟩
  obtain ⟨hx, hb, hml, hr, hts, hown, -⟩ := cx
  refine lv_ldcw hx hb hown (hts _ (List.mem_cons_of_mem _ hw)) hd ?_
  exact k ls (mjFr_st hF (mjsc_i hF.2.1))
theorem mjs_iload_n {i : Nat} {q : Fin 4} (hd : decode cc pc = .ok (.iload_n q, 1)) (hi : (q : Nat) = i) : mjOk K l G M y own cc nL rt pc (mjiload i (pc + 1)) := by
  refine mjOk_same fun call F res hres => ?_
  obtain ⟨al, st, h⟩ := F
  unfold mjiload at hres
  dsimp only at hres
  split at hres
  · rename_i x hl
    cases hres
    refine ⟨_, _, rfl, rfl, fun d p e R s m args below meth c cx Q cells slots H locs ls ad hW hF hS hcl hsl k => ?_⟩
    obtain ⟨hx, hb, -⟩ := cx
    have hl' := mjlr_at hF.1 hl
    refine lv_iload_n hx hb hd hi hl' ?_
    exact k ls (mjFr_st hF (mjsc_c (hF.2.2 _ (List.mem_of_getElem? hl)) hF.2.1))
  · cases hres
theorem mjs_iload {i : Nat} (hd : decode cc pc = .ok (.iload i, 2)) : mjOk K l G M y own cc nL rt pc (mjiload i (pc + 2)) := by
  refine mjOk_same fun call F res hres => ?_
  obtain ⟨al, st, h⟩ := F
  unfold mjiload at hres
  dsimp only at hres
  split at hres
  · rename_i x hl
    cases hres
    refine ⟨_, _, rfl, rfl, fun d p e R s m args below meth c cx Q cells slots H locs ls ad hW hF hS hcl hsl k => ?_⟩
    obtain ⟨hx, hb, -⟩ := cx
    have hl' := mjlr_at hF.1 hl
    refine lv_iload hx hb hd hl' ?_
    exact k ls (mjFr_st hF (mjsc_c (hF.2.2 _ (List.mem_of_getElem? hl)) hF.2.1))
  · cases hres
theorem mjs_aload_n {i : Nat} {q : Fin 4} (hd : decode cc pc = .ok (.aload_n q, 1)) (hi : (q : Nat) = i) : mjOk K l G M y own cc nL rt pc (mjaload i (pc + 1)) := by
  refine mjOk_same fun call F res hres => ?_
  obtain ⟨al, st, h⟩ := F
  unfold mjaload at hres
  dsimp only at hres
  split at hres
  · rename_i x hl
    cases hres
    refine ⟨_, _, rfl, rfl, fun d p e R s m args below meth c cx Q cells slots H locs ls ad hW hF hS hcl hsl k => ?_⟩
    obtain ⟨hx, hb, -⟩ := cx
    have hl' := mjlr_at hF.1 hl
    refine lv_aload_n hx hb hd hi hl' ?_
    exact k ls (mjFr_st hF (mjsc_c (hF.2.2 _ (List.mem_of_getElem? hl)) hF.2.1))
  · rename_i  hl
    cases hres
    refine ⟨_, _, rfl, rfl, fun d p e R s m args below meth c cx Q cells slots H locs ls ad hW hF hS hcl hsl k => ?_⟩
    obtain ⟨hx, hb, -⟩ := cx
    have hl' := mjlr_at hF.1 hl
    refine lv_aload_nN hx hb hd hi hl' ?_
    exact k ls (mjFr_st hF (mjsc_c (hF.2.2 _ (List.mem_of_getElem? hl)) hF.2.1))
  · cases hres
theorem mjs_aload {i : Nat} (hd : decode cc pc = .ok (.aload i, 2)) : mjOk K l G M y own cc nL rt pc (mjaload i (pc + 2)) := by
  refine mjOk_same fun call F res hres => ?_
  obtain ⟨al, st, h⟩ := F
  unfold mjaload at hres
  dsimp only at hres
  split at hres
  · rename_i x hl
    cases hres
    refine ⟨_, _, rfl, rfl, fun d p e R s m args below meth c cx Q cells slots H locs ls ad hW hF hS hcl hsl k => ?_⟩
    obtain ⟨hx, hb, -⟩ := cx
    have hl' := mjlr_at hF.1 hl
    refine lv_aload hx hb hd hl' ?_
    exact k ls (mjFr_st hF (mjsc_c (hF.2.2 _ (List.mem_of_getElem? hl)) hF.2.1))
  · rename_i  hl
    cases hres
    refine ⟨_, _, rfl, rfl, fun d p e R s m args below meth c cx Q cells slots H locs ls ad hW hF hS hcl hsl k => ?_⟩
    obtain ⟨hx, hb, -⟩ := cx
    have hl' := mjlr_at hF.1 hl
    refine lv_aloadN hx hb hd hl' ?_
    exact k ls (mjFr_st hF (mjsc_c (hF.2.2 _ (List.mem_of_getElem? hl)) hF.2.1))
  · cases hres
theorem mjs_istore_n {i : Nat} {q : Fin 4} (hd : decode cc pc = .ok (.istore_n q, 1)) (hi : (q : Nat) = i) : mjOk K l G M y own cc nL rt pc (mjistore i (pc + 1)) := by
  refine mjOk_same fun call F res hres => ?_
  obtain ⟨al, st, h⟩ := F
  unfold mjistore at hres
  dsimp only at hres
  split at hres
  · rename_i x r
    cases hg : (Nat.blt i al.length)
    · rw [hg] at hres
      cases hres
    rw [hg] at hres
    cases hres
    have hg : i < al.length := by simpa [Nat.blt_eq] using hg
    refine ⟨_, _, rfl, rfl, fun d p e R s m args below meth c cx Q cells slots H locs ls ad hW hF hS hcl hsl k => ?_⟩
    obtain ⟨hx, hb, -⟩ := id cx
    refine lv_istore_n hx hb hd hi hF.1.has (by rw [← hF.1.2.1]; exact hg) rfl (fun ls' h' => ?_)
    exact k ls' ⟨mjlr_store cx.2.2.2.2.2.2.2.2.1.cat hF.1 rfl h', mjsc_t hF.2.1, mjsc_set (mjsc_h hF.2.1) hF.2.2⟩
  · cases hres
theorem mjs_istore {i : Nat} (hd : decode cc pc = .ok (.istore i, 2)) : mjOk K l G M y own cc nL rt pc (mjistore i (pc + 2)) := by
  refine mjOk_same fun call F res hres => ?_
  obtain ⟨al, st, h⟩ := F
  unfold mjistore at hres
  dsimp only at hres
  split at hres
  · rename_i x r
    cases hg : (Nat.blt i al.length)
    · rw [hg] at hres
      cases hres
    rw [hg] at hres
    cases hres
    have hg : i < al.length := by simpa [Nat.blt_eq] using hg
    refine ⟨_, _, rfl, rfl, fun d p e R s m args below meth c cx Q cells slots H locs ls ad hW hF hS hcl hsl k => ?_⟩
    obtain ⟨hx, hb, -⟩ := id cx
    refine lv_istore hx hb hd hF.1.has (by rw [← hF.1.2.1]; exact hg) rfl (fun ls' h' => ?_)
    exact k ls' ⟨mjlr_store cx.2.2.2.2.2.2.2.2.1.cat hF.1 rfl h', mjsc_t hF.2.1, mjsc_set (mjsc_h hF.2.1) hF.2.2⟩
  · cases hres
theorem mjs_astore_n {i : Nat} {q : Fin 4} (hd : decode cc pc = .ok (.astore_n q, 1)) (hi : (q : Nat) = i) : mjOk K l G M y own cc nL rt pc (mjastore i (pc + 1)) := by
  refine mjOk_same fun call F res hres => ?_
  obtain ⟨al, st, h⟩ := F
  unfold mjastore at hres
  dsimp only at hres
  split at hres
  · rename_i x r
    cases hg : (Nat.blt i al.length)
    · rw [hg] at hres
      cases hres
    rw [hg] at hres
    cases hres
    have hg : i < al.length := by simpa [Nat.blt_eq] using hg
    refine ⟨_, _, rfl, rfl, fun d p e R s m args below meth c cx Q cells slots H locs ls ad hW hF hS hcl hsl k => ?_⟩
    obtain ⟨hx, hb, -⟩ := id cx
    refine lv_astore_n hx hb hd hi hF.1.has (by rw [← hF.1.2.1]; exact hg) rfl (fun ls' h' => ?_)
    exact k ls' ⟨mjlr_store cx.2.2.2.2.2.2.2.2.1.cat hF.1 rfl h', mjsc_t hF.2.1, mjsc_set (mjsc_h hF.2.1) hF.2.2⟩
  · rename_i r
    cases hg : (Nat.blt i al.length)
    · rw [hg] at hres
      cases hres
    rw [hg] at hres
    cases hres
    have hg : i < al.length := by simpa [Nat.blt_eq] using hg
    refine ⟨_, _, rfl, rfl, fun d p e R s m args below meth c cx Q cells slots H locs ls ad hW hF hS hcl hsl k => ?_⟩
    obtain ⟨hx, hb, -⟩ := id cx
    refine lv_astore_nN hx hb hd hi hF.1.has (by rw [← hF.1.2.1]; exact hg) rfl (fun ls' h' => ?_)
    exact k ls' ⟨mjlr_store cx.2.2.2.2.2.2.2.2.1.cat hF.1 rfl h', mjsc_t hF.2.1, mjsc_set (mjsc_h hF.2.1) hF.2.2⟩
  · cases hres
theorem mjs_astore {i : Nat} (hd : decode cc pc = .ok (.astore i, 2)) : mjOk K l G M y own cc nL rt pc (mjastore i (pc + 2)) := by
  refine mjOk_same fun call F res hres => ?_
  obtain ⟨al, st, h⟩ := F
  unfold mjastore at hres
  dsimp only at hres
  split at hres
  · rename_i x r
    cases hg : (Nat.blt i al.length)
    · rw [hg] at hres
      cases hres
    rw [hg] at hres
    cases hres
    have hg : i < al.length := by simpa [Nat.blt_eq] using hg
    refine ⟨_, _, rfl, rfl, fun d p e R s m args below meth c cx Q cells slots H locs ls ad hW hF hS hcl hsl k => ?_⟩
    obtain ⟨hx, hb, -⟩ := id cx
    refine lv_astore hx hb hd hF.1.has (by rw [← hF.1.2.1]; exact hg) rfl (fun ls' h' => ?_)
    exact k ls' ⟨mjlr_store cx.2.2.2.2.2.2.2.2.1.cat hF.1 rfl h', mjsc_t hF.2.1, mjsc_set (mjsc_h hF.2.1) hF.2.2⟩
  · rename_i r
    cases hg : (Nat.blt i al.length)
    · rw [hg] at hres
      cases hres
    rw [hg] at hres
    cases hres
    have hg : i < al.length := by simpa [Nat.blt_eq] using hg
    refine ⟨_, _, rfl, rfl, fun d p e R s m args below meth c cx Q cells slots H locs ls ad hW hF hS hcl hsl k => ?_⟩
    obtain ⟨hx, hb, -⟩ := id cx
    refine lv_astoreN hx hb hd hF.1.has (by rw [← hF.1.2.1]; exact hg) rfl (fun ls' h' => ?_)
    exact k ls' ⟨mjlr_store cx.2.2.2.2.2.2.2.2.1.cat hF.1 rfl h', mjsc_t hF.2.1, mjsc_set (mjsc_h hF.2.1) hF.2.2⟩
  · cases hres
theorem mjs_iinc {i : Nat} {n : Int} {v : Int32} (hd : decode cc pc = .ok (.iinc i n, 3)) (hv : Int32.ofInt n = v) : mjOk K l G M y own cc nL rt pc (mjiinc i v (pc + 3)) := by
  refine mjOk_same fun call F res hres => ?_
  obtain ⟨al, st, h⟩ := F
  unfold mjiinc at hres
  dsimp only at hres
  split at hres
  · rename_i x hl
    cases hres
    refine ⟨_, _, rfl, rfl, fun d p e R s m args below meth c cx Q cells slots H locs ls ad hW hF hS hcl hsl k => ?_⟩
    obtain ⟨hx, hb, -⟩ := id cx
    obtain ⟨j, hj⟩ := List.getElem?_of_mem (mjasc_in (z := mkZ K) (ad := ad) hl)
    refine lv_iinc (v := x + v) hx hb hd hF.1.has (k := j) hj (by rw [hv]) (by rw [← hF.1.2.1]; exact (List.getElem?_eq_some_iff.mp hl).1) rfl (fun ls' h' => ?_)
    exact k ls' ⟨mjlr_store (v := .int (x + v)) cx.2.2.2.2.2.2.2.2.1.cat hF.1 rfl h', hF.2.1, mjsc_set trivial hF.2.2⟩
  · cases hres
theorem mjs_iadd (hd : decode cc pc = .ok (.iadd, 1)) : mjOk K l G M y own cc nL rt pc (mjbin (fun x y => x + y) (pc + 1)) := by
  refine mjOk_same fun call F res hres => ?_
  obtain ⟨al, st, h⟩ := F
  unfold mjbin at hres
  dsimp only at hres
  split at hres
  · rename_i y x r
    cases hres
    refine ⟨_, _, rfl, rfl, fun d p e R s m args below meth c cx Q cells slots H locs ls ad hW hF hS hcl hsl k => ?_⟩
    obtain ⟨hx, hb, -⟩ := cx
    refine lv_iadd hx hb hd ?_
    exact k ls (mjFr_st hF (mjsc_i (mjsc_t (mjsc_t hF.2.1))))
  · cases hres
theorem mjs_isub (hd : decode cc pc = .ok (.isub, 1)) : mjOk K l G M y own cc nL rt pc (mjbin (fun x y => x - y) (pc + 1)) := by
  refine mjOk_same fun call F res hres => ?_
  obtain ⟨al, st, h⟩ := F
  unfold mjbin at hres
  dsimp only at hres
  split at hres
  · rename_i y x r
    cases hres
    refine ⟨_, _, rfl, rfl, fun d p e R s m args below meth c cx Q cells slots H locs ls ad hW hF hS hcl hsl k => ?_⟩
    obtain ⟨hx, hb, -⟩ := cx
    refine lv_isub hx hb hd ?_
    exact k ls (mjFr_st hF (mjsc_i (mjsc_t (mjsc_t hF.2.1))))
  · cases hres
theorem mjs_imul (hd : decode cc pc = .ok (.imul, 1)) : mjOk K l G M y own cc nL rt pc (mjbin (fun x y => x * y) (pc + 1)) := by
  refine mjOk_same fun call F res hres => ?_
  obtain ⟨al, st, h⟩ := F
  unfold mjbin at hres
  dsimp only at hres
  split at hres
  · rename_i y x r
    cases hres
    refine ⟨_, _, rfl, rfl, fun d p e R s m args below meth c cx Q cells slots H locs ls ad hW hF hS hcl hsl k => ?_⟩
    obtain ⟨hx, hb, -⟩ := cx
    refine lv_imul hx hb hd ?_
    exact k ls (mjFr_st hF (mjsc_i (mjsc_t (mjsc_t hF.2.1))))
  · cases hres
theorem mjs_iand (hd : decode cc pc = .ok (.iand, 1)) : mjOk K l G M y own cc nL rt pc (mjbin (fun x y => x &&& y) (pc + 1)) := by
  refine mjOk_same fun call F res hres => ?_
  obtain ⟨al, st, h⟩ := F
  unfold mjbin at hres
  dsimp only at hres
  split at hres
  · rename_i y x r
    cases hres
    refine ⟨_, _, rfl, rfl, fun d p e R s m args below meth c cx Q cells slots H locs ls ad hW hF hS hcl hsl k => ?_⟩
    obtain ⟨hx, hb, -⟩ := cx
    refine lv_iand hx hb hd ?_
    exact k ls (mjFr_st hF (mjsc_i (mjsc_t (mjsc_t hF.2.1))))
  · cases hres
theorem mjs_ior (hd : decode cc pc = .ok (.ior, 1)) : mjOk K l G M y own cc nL rt pc (mjbin (fun x y => x ||| y) (pc + 1)) := by
  refine mjOk_same fun call F res hres => ?_
  obtain ⟨al, st, h⟩ := F
  unfold mjbin at hres
  dsimp only at hres
  split at hres
  · rename_i y x r
    cases hres
    refine ⟨_, _, rfl, rfl, fun d p e R s m args below meth c cx Q cells slots H locs ls ad hW hF hS hcl hsl k => ?_⟩
    obtain ⟨hx, hb, -⟩ := cx
    refine lv_ior hx hb hd ?_
    exact k ls (mjFr_st hF (mjsc_i (mjsc_t (mjsc_t hF.2.1))))
  · cases hres
theorem mjs_ishl (hd : decode cc pc = .ok (.ishl, 1)) : mjOk K l G M y own cc nL rt pc (mjbin (fun x y => x <<< (y &&& 31)) (pc + 1)) := by
  refine mjOk_same fun call F res hres => ?_
  obtain ⟨al, st, h⟩ := F
  unfold mjbin at hres
  dsimp only at hres
  split at hres
  · rename_i y x r
    cases hres
    refine ⟨_, _, rfl, rfl, fun d p e R s m args below meth c cx Q cells slots H locs ls ad hW hF hS hcl hsl k => ?_⟩
    obtain ⟨hx, hb, -⟩ := cx
    refine lv_ishl hx hb hd ?_
    exact k ls (mjFr_st hF (mjsc_i (mjsc_t (mjsc_t hF.2.1))))
  · cases hres
theorem mjs_ishr (hd : decode cc pc = .ok (.ishr, 1)) : mjOk K l G M y own cc nL rt pc (mjbin (fun x y => x >>> (y &&& 31)) (pc + 1)) := by
  refine mjOk_same fun call F res hres => ?_
  obtain ⟨al, st, h⟩ := F
  unfold mjbin at hres
  dsimp only at hres
  split at hres
  · rename_i y x r
    cases hres
    refine ⟨_, _, rfl, rfl, fun d p e R s m args below meth c cx Q cells slots H locs ls ad hW hF hS hcl hsl k => ?_⟩
    obtain ⟨hx, hb, -⟩ := cx
    refine lv_ishr hx hb hd ?_
    exact k ls (mjFr_st hF (mjsc_i (mjsc_t (mjsc_t hF.2.1))))
  · cases hres
theorem mjs_idiv (hd : decode cc pc = .ok (.idiv, 1)) : mjOk K l G M y own cc nL rt pc (mjdiv (fun x y => x / y) (pc + 1)) := by
  refine mjOk_same fun call F res hres => ?_
  obtain ⟨al, st, h⟩ := F
  unfold mjdiv at hres
  dsimp only at hres
  split at hres
  · rename_i y x r
    by_cases hg : y = 0
    · rw [decide_eq_true hg] at hres
      cases hres
    rw [decide_eq_false hg] at hres
    cases hres
    refine ⟨_, _, rfl, rfl, fun d p e R s m args below meth c cx Q cells slots H locs ls ad hW hF hS hcl hsl k => ?_⟩
    obtain ⟨hx, hb, -⟩ := cx
    refine lv_idiv hx hb hd hg ?_
    exact k ls (mjFr_st hF (mjsc_i (mjsc_t (mjsc_t hF.2.1))))
  · cases hres
theorem mjs_irem (hd : decode cc pc = .ok (.irem, 1)) : mjOk K l G M y own cc nL rt pc (mjdiv (fun x y => x - x / y * y) (pc + 1)) := by
  refine mjOk_same fun call F res hres => ?_
  obtain ⟨al, st, h⟩ := F
  unfold mjdiv at hres
  dsimp only at hres
  split at hres
  · rename_i y x r
    by_cases hg : y = 0
    · rw [decide_eq_true hg] at hres
      cases hres
    rw [decide_eq_false hg] at hres
    cases hres
    refine ⟨_, _, rfl, rfl, fun d p e R s m args below meth c cx Q cells slots H locs ls ad hW hF hS hcl hsl k => ?_⟩
    obtain ⟨hx, hb, -⟩ := cx
    refine lv_irem hx hb hd hg ?_
    exact k ls (mjFr_st hF (mjsc_i (mjsc_t (mjsc_t hF.2.1))))
  · cases hres
theorem mjs_ineg (hd : decode cc pc = .ok (.ineg, 1)) : mjOk K l G M y own cc nL rt pc (mjun (fun x => -x) (pc + 1)) := by
  refine mjOk_same fun call F res hres => ?_
  obtain ⟨al, st, h⟩ := F
  unfold mjun at hres
  dsimp only at hres
  split at hres
  · rename_i x r
    cases hres
    refine ⟨_, _, rfl, rfl, fun d p e R s m args below meth c cx Q cells slots H locs ls ad hW hF hS hcl hsl k => ?_⟩
    obtain ⟨hx, hb, -⟩ := cx
    refine lv_ineg hx hb hd ?_
    exact k ls (mjFr_st hF (mjsc_i (mjsc_t hF.2.1)))
  · cases hres
theorem mjs_i2b (hd : decode cc pc = .ok (.i2b, 1)) : mjOk K l G M y own cc nL rt pc (mjun (fun x => x.toInt8.toInt32) (pc + 1)) := by
  refine mjOk_same fun call F res hres => ?_
  obtain ⟨al, st, h⟩ := F
  unfold mjun at hres
  dsimp only at hres
  split at hres
  · rename_i x r
    cases hres
    refine ⟨_, _, rfl, rfl, fun d p e R s m args below meth c cx Q cells slots H locs ls ad hW hF hS hcl hsl k => ?_⟩
    obtain ⟨hx, hb, -⟩ := cx
    refine lv_i2b hx hb hd rfl ?_
    exact k ls (mjFr_st hF (mjsc_i (mjsc_t hF.2.1)))
  · cases hres
theorem mjs_i2s (hd : decode cc pc = .ok (.i2s, 1)) : mjOk K l G M y own cc nL rt pc (mjun (fun x => x.toInt16.toInt32) (pc + 1)) := by
  refine mjOk_same fun call F res hres => ?_
  obtain ⟨al, st, h⟩ := F
  unfold mjun at hres
  dsimp only at hres
  split at hres
  · rename_i x r
    cases hres
    refine ⟨_, _, rfl, rfl, fun d p e R s m args below meth c cx Q cells slots H locs ls ad hW hF hS hcl hsl k => ?_⟩
    obtain ⟨hx, hb, -⟩ := cx
    refine lv_i2s hx hb hd rfl ?_
    exact k ls (mjFr_st hF (mjsc_i (mjsc_t hF.2.1)))
  · cases hres
theorem mjs_i2c (hd : decode cc pc = .ok (.i2c, 1)) : mjOk K l G M y own cc nL rt pc (mjun (fun x => (x.toUInt32 % 65536).toInt32) (pc + 1)) := by
  refine mjOk_same fun call F res hres => ?_
  obtain ⟨al, st, h⟩ := F
  unfold mjun at hres
  dsimp only at hres
  split at hres
  · rename_i x r
    cases hres
    refine ⟨_, _, rfl, rfl, fun d p e R s m args below meth c cx Q cells slots H locs ls ad hW hF hS hcl hsl k => ?_⟩
    obtain ⟨hx, hb, -⟩ := cx
    refine lv_i2c hx hb hd rfl ?_
    exact k ls (mjFr_st hF (mjsc_i (mjsc_t hF.2.1)))
  · cases hres
theorem mjs_i2l (hd : decode cc pc = .ok (.i2l, 1)) : mjOk K l G M y own cc nL rt pc (mji2l (pc + 1)) := by
  refine mjOk_same fun call F res hres => ?_
  obtain ⟨al, st, h⟩ := F
  unfold mji2l at hres
  dsimp only at hres
  split at hres
  · rename_i x r
    cases hres
    refine ⟨_, _, rfl, rfl, fun d p e R s m args below meth c cx Q cells slots H locs ls ad hW hF hS hcl hsl k => ?_⟩
    obtain ⟨hx, hb, -⟩ := cx
    refine lv_i2l hx hb hd rfl ?_
    exact k ls (mjFr_st hF (mjsc_l (mjsc_t hF.2.1)))
  · cases hres
theorem mjs_lcmp (hd : decode cc pc = .ok (.lcmp, 1)) : mjOk K l G M y own cc nL rt pc (mjlcmp (pc + 1)) := by
  refine mjOk_same fun call F res hres => ?_
  obtain ⟨al, st, h⟩ := F
  unfold mjlcmp at hres
  dsimp only at hres
  split at hres
  · rename_i y x r
    cases hres
    refine ⟨_, _, rfl, rfl, fun d p e R s m args below meth c cx Q cells slots H locs ls ad hW hF hS hcl hsl k => ?_⟩
    obtain ⟨hx, hb, -⟩ := cx
    refine W.lcmp hx hb hd ?_
    exact k ls (mjFr_st hF (mjsc_i (mjsc_t (mjsc_t hF.2.1))))
  · cases hres
theorem mjs_if_eq {off : Int} {tgt : Nat} (hd : decode cc pc = .ok (.ifCond .eq off, 3)) (ht : (pc : Int) + off = (tgt : Int)) : mjOk K l G M y own cc nL rt pc (mjif (fun x => decide (x = 0)) tgt (pc + 3)) := by
  refine mjOk_same fun call F res hres => ?_
  obtain ⟨al, st, h⟩ := F
  unfold mjif at hres
  dsimp only at hres
  split at hres
  · rename_i x r
    cases hres
    refine ⟨_, _, rfl, rfl, fun d p e R s m args below meth c cx Q cells slots H locs ls ad hW hF hS hcl hsl k => ?_⟩
    obtain ⟨hx, hb, -⟩ := cx
    have k := k ls (mjFr_st hF (mjsc_t hF.2.1))
    refine lv_if_eq hx hb hd ht (fun q => ?_) (fun q => ?_)
    · rw [decide_eq_true (by first | exact q | (simpa using q))] at k
      exact k
    · rw [decide_eq_false (by first | exact q | (simpa using q))] at k
      exact k
  · cases hres
theorem mjs_icmp_eq {off : Int} {tgt : Nat} (hd : decode cc pc = .ok (.if_icmp .eq off, 3)) (ht : (pc : Int) + off = (tgt : Int)) : mjOk K l G M y own cc nL rt pc (mjcmp (fun x y => decide (x = y)) tgt (pc + 3)) := by
  refine mjOk_same fun call F res hres => ?_
  obtain ⟨al, st, h⟩ := F
  unfold mjcmp at hres
  dsimp only at hres
  split at hres
  · rename_i y x r
    cases hres
    refine ⟨_, _, rfl, rfl, fun d p e R s m args below meth c cx Q cells slots H locs ls ad hW hF hS hcl hsl k => ?_⟩
    obtain ⟨hx, hb, -⟩ := cx
    have k := k ls (mjFr_st hF (mjsc_t (mjsc_t hF.2.1)))
    refine lv_icmp_eq hx hb hd ht (fun q => ?_) (fun q => ?_)
    · rw [decide_eq_true (by first | exact q | (simpa using q))] at k
      exact k
    · rw [decide_eq_false (by first | exact q | (simpa using q))] at k
      exact k
  · cases hres
theorem mjs_if_ne {off : Int} {tgt : Nat} (hd : decode cc pc = .ok (.ifCond .ne off, 3)) (ht : (pc : Int) + off = (tgt : Int)) : mjOk K l G M y own cc nL rt pc (mjif (fun x => decide (x ≠ 0)) tgt (pc + 3)) := by
  refine mjOk_same fun call F res hres => ?_
  obtain ⟨al, st, h⟩ := F
  unfold mjif at hres
  dsimp only at hres
  split at hres
  · rename_i x r
    cases hres
    refine ⟨_, _, rfl, rfl, fun d p e R s m args below meth c cx Q cells slots H locs ls ad hW hF hS hcl hsl k => ?_⟩
    obtain ⟨hx, hb, -⟩ := cx
    have k := k ls (mjFr_st hF (mjsc_t hF.2.1))
    refine lv_if_ne hx hb hd ht (fun q => ?_) (fun q => ?_)
    · rw [decide_eq_true (by first | exact q | (simpa using q))] at k
      exact k
    · rw [decide_eq_false (by first | exact q | (simpa using q))] at k
      exact k
  · cases hres
theorem mjs_icmp_ne {off : Int} {tgt : Nat} (hd : decode cc pc = .ok (.if_icmp .ne off, 3)) (ht : (pc : Int) + off = (tgt : Int)) : mjOk K l G M y own cc nL rt pc (mjcmp (fun x y => decide (x ≠ y)) tgt (pc + 3)) := by
  refine mjOk_same fun call F res hres => ?_
  obtain ⟨al, st, h⟩ := F
  unfold mjcmp at hres
  dsimp only at hres
  split at hres
  · rename_i y x r
    cases hres
    refine ⟨_, _, rfl, rfl, fun d p e R s m args below meth c cx Q cells slots H locs ls ad hW hF hS hcl hsl k => ?_⟩
    obtain ⟨hx, hb, -⟩ := cx
    have k := k ls (mjFr_st hF (mjsc_t (mjsc_t hF.2.1)))
    refine lv_icmp_ne hx hb hd ht (fun q => ?_) (fun q => ?_)
    · rw [decide_eq_true (by first | exact q | (simpa using q))] at k
      exact k
    · rw [decide_eq_false (by first | exact q | (simpa using q))] at k
      exact k
  · cases hres
theorem mjs_if_lt {off : Int} {tgt : Nat} (hd : decode cc pc = .ok (.ifCond .lt off, 3)) (ht : (pc : Int) + off = (tgt : Int)) : mjOk K l G M y own cc nL rt pc (mjif (fun x => decide (x < 0)) tgt (pc + 3)) := by
  refine mjOk_same fun call F res hres => ?_
  obtain ⟨al, st, h⟩ := F
  unfold mjif at hres
  dsimp only at hres
  split at hres
  · rename_i x r
    cases hres
    refine ⟨_, _, rfl, rfl, fun d p e R s m args below meth c cx Q cells slots H locs ls ad hW hF hS hcl hsl k => ?_⟩
    obtain ⟨hx, hb, -⟩ := cx
    have k := k ls (mjFr_st hF (mjsc_t hF.2.1))
    refine lv_if_lt hx hb hd ht (fun q => ?_) (fun q => ?_)
    · rw [decide_eq_true (by first | exact q | (simpa using q))] at k
      exact k
    · rw [decide_eq_false (by first | exact q | (simpa using q))] at k
      exact k
  · cases hres
theorem mjs_icmp_lt {off : Int} {tgt : Nat} (hd : decode cc pc = .ok (.if_icmp .lt off, 3)) (ht : (pc : Int) + off = (tgt : Int)) : mjOk K l G M y own cc nL rt pc (mjcmp (fun x y => decide (x < y)) tgt (pc + 3)) := by
  refine mjOk_same fun call F res hres => ?_
  obtain ⟨al, st, h⟩ := F
  unfold mjcmp at hres
  dsimp only at hres
  split at hres
  · rename_i y x r
    cases hres
    refine ⟨_, _, rfl, rfl, fun d p e R s m args below meth c cx Q cells slots H locs ls ad hW hF hS hcl hsl k => ?_⟩
    obtain ⟨hx, hb, -⟩ := cx
    have k := k ls (mjFr_st hF (mjsc_t (mjsc_t hF.2.1)))
    refine lv_icmp_lt hx hb hd ht (fun q => ?_) (fun q => ?_)
    · rw [decide_eq_true (by first | exact q | (simpa using q))] at k
      exact k
    · rw [decide_eq_false (by first | exact q | (simpa using q))] at k
      exact k
  · cases hres
theorem mjs_if_ge {off : Int} {tgt : Nat} (hd : decode cc pc = .ok (.ifCond .ge off, 3)) (ht : (pc : Int) + off = (tgt : Int)) : mjOk K l G M y own cc nL rt pc (mjif (fun x => decide (0 ≤ x)) tgt (pc + 3)) := by
  refine mjOk_same fun call F res hres => ?_
  obtain ⟨al, st, h⟩ := F
  unfold mjif at hres
  dsimp only at hres
  split at hres
  · rename_i x r
    cases hres
    refine ⟨_, _, rfl, rfl, fun d p e R s m args below meth c cx Q cells slots H locs ls ad hW hF hS hcl hsl k => ?_⟩
    obtain ⟨hx, hb, -⟩ := cx
    have k := k ls (mjFr_st hF (mjsc_t hF.2.1))
    refine lv_if_ge hx hb hd ht (fun q => ?_) (fun q => ?_)
    · rw [decide_eq_true (by first | exact q | (simpa using q))] at k
      exact k
    · rw [decide_eq_false (by first | exact q | (simpa using q))] at k
      exact k
  · cases hres
theorem mjs_icmp_ge {off : Int} {tgt : Nat} (hd : decode cc pc = .ok (.if_icmp .ge off, 3)) (ht : (pc : Int) + off = (tgt : Int)) : mjOk K l G M y own cc nL rt pc (mjcmp (fun x y => decide (y ≤ x)) tgt (pc + 3)) := by
  refine mjOk_same fun call F res hres => ?_
  obtain ⟨al, st, h⟩ := F
  unfold mjcmp at hres
  dsimp only at hres
  split at hres
  · rename_i y x r
    cases hres
    refine ⟨_, _, rfl, rfl, fun d p e R s m args below meth c cx Q cells slots H locs ls ad hW hF hS hcl hsl k => ?_⟩
    obtain ⟨hx, hb, -⟩ := cx
    have k := k ls (mjFr_st hF (mjsc_t (mjsc_t hF.2.1)))
    refine lv_icmp_ge hx hb hd ht (fun q => ?_) (fun q => ?_)
    · rw [decide_eq_true (by first | exact q | (simpa using q))] at k
      exact k
    · rw [decide_eq_false (by first | exact q | (simpa using q))] at k
      exact k
  · cases hres
theorem mjs_if_gt {off : Int} {tgt : Nat} (hd : decode cc pc = .ok (.ifCond .gt off, 3)) (ht : (pc : Int) + off = (tgt : Int)) : mjOk K l G M y own cc nL rt pc (mjif (fun x => decide (0 < x)) tgt (pc + 3)) := by
  refine mjOk_same fun call F res hres => ?_
  obtain ⟨al, st, h⟩ := F
  unfold mjif at hres
  dsimp only at hres
  split at hres
  · rename_i x r
    cases hres
    refine ⟨_, _, rfl, rfl, fun d p e R s m args below meth c cx Q cells slots H locs ls ad hW hF hS hcl hsl k => ?_⟩
    obtain ⟨hx, hb, -⟩ := cx
    have k := k ls (mjFr_st hF (mjsc_t hF.2.1))
    refine lv_if_gt hx hb hd ht (fun q => ?_) (fun q => ?_)
    · rw [decide_eq_true (by first | exact q | (simpa using q))] at k
      exact k
    · rw [decide_eq_false (by first | exact q | (simpa using q))] at k
      exact k
  · cases hres
theorem mjs_icmp_gt {off : Int} {tgt : Nat} (hd : decode cc pc = .ok (.if_icmp .gt off, 3)) (ht : (pc : Int) + off = (tgt : Int)) : mjOk K l G M y own cc nL rt pc (mjcmp (fun x y => decide (y < x)) tgt (pc + 3)) := by
  refine mjOk_same fun call F res hres => ?_
  obtain ⟨al, st, h⟩ := F
  unfold mjcmp at hres
  dsimp only at hres
  split at hres
  · rename_i y x r
    cases hres
    refine ⟨_, _, rfl, rfl, fun d p e R s m args below meth c cx Q cells slots H locs ls ad hW hF hS hcl hsl k => ?_⟩
    obtain ⟨hx, hb, -⟩ := cx
    have k := k ls (mjFr_st hF (mjsc_t (mjsc_t hF.2.1)))
    refine lv_icmp_gt hx hb hd ht (fun q => ?_) (fun q => ?_)
    · rw [decide_eq_true (by first | exact q | (simpa using q))] at k
      exact k
    · rw [decide_eq_false (by first | exact q | (simpa using q))] at k
      exact k
  · cases hres
theorem mjs_if_le {off : Int} {tgt : Nat} (hd : decode cc pc = .ok (.ifCond .le off, 3)) (ht : (pc : Int) + off = (tgt : Int)) : mjOk K l G M y own cc nL rt pc (mjif (fun x => decide (x ≤ 0)) tgt (pc + 3)) := by
  refine mjOk_same fun call F res hres => ?_
  obtain ⟨al, st, h⟩ := F
  unfold mjif at hres
  dsimp only at hres
  split at hres
  · rename_i x r
    cases hres
    refine ⟨_, _, rfl, rfl, fun d p e R s m args below meth c cx Q cells slots H locs ls ad hW hF hS hcl hsl k => ?_⟩
    obtain ⟨hx, hb, -⟩ := cx
    have k := k ls (mjFr_st hF (mjsc_t hF.2.1))
    refine lv_if_le hx hb hd ht (fun q => ?_) (fun q => ?_)
    · rw [decide_eq_true (by first | exact q | (simpa using q))] at k
      exact k
    · rw [decide_eq_false (by first | exact q | (simpa using q))] at k
      exact k
  · cases hres
theorem mjs_icmp_le {off : Int} {tgt : Nat} (hd : decode cc pc = .ok (.if_icmp .le off, 3)) (ht : (pc : Int) + off = (tgt : Int)) : mjOk K l G M y own cc nL rt pc (mjcmp (fun x y => decide (x ≤ y)) tgt (pc + 3)) := by
  refine mjOk_same fun call F res hres => ?_
  obtain ⟨al, st, h⟩ := F
  unfold mjcmp at hres
  dsimp only at hres
  split at hres
  · rename_i y x r
    cases hres
    refine ⟨_, _, rfl, rfl, fun d p e R s m args below meth c cx Q cells slots H locs ls ad hW hF hS hcl hsl k => ?_⟩
    obtain ⟨hx, hb, -⟩ := cx
    have k := k ls (mjFr_st hF (mjsc_t (mjsc_t hF.2.1)))
    refine lv_icmp_le hx hb hd ht (fun q => ?_) (fun q => ?_)
    · rw [decide_eq_true (by first | exact q | (simpa using q))] at k
      exact k
    · rw [decide_eq_false (by first | exact q | (simpa using q))] at k
      exact k
  · cases hres
theorem mjs_goto {off : Int} {tgt : Nat} (hd : decode cc pc = .ok (.goto off, 3)) (ht : (pc : Int) + off = (tgt : Int)) : mjOk K l G M y own cc nL rt pc (mjgoto tgt) := by
  refine mjOk_same fun call F res hres => ?_
  obtain ⟨al, st, h⟩ := F
  cases hres
  refine ⟨_, _, rfl, rfl, fun d p e R s m args below meth c cx Q cells slots H locs ls ad hW hF hS hcl hsl k => ?_⟩
  obtain ⟨hx, hb, -⟩ := cx
  refine lv_goto hx hb hd ht ?_
  exact k ls hF
theorem mjs_dup (hd : decode cc pc = .ok (.dup, 1)) : mjOk K l G M y own cc nL rt pc (mjdup (pc + 1)) := by
  refine mjOk_same fun call F res hres => ?_
  obtain ⟨al, st, h⟩ := F
  unfold mjdup at hres
  dsimp only at hres
  split at hres
  · rename_i v r
    cases hg : (v.category == 1)
    · rw [hg] at hres
      cases hres
    rw [hg] at hres
    cases hres
    refine ⟨_, _, rfl, rfl, fun d p e R s m args below meth c cx Q cells slots H locs ls ad hW hF hS hcl hsl k => ?_⟩
    have hz := cx.2.2.2.2.2.2.2.2.1.cat
    obtain ⟨hx, hb, -⟩ := cx
    refine lv_dup hx hb hd (by rw [mjrn_cat hz]; exact by simpa using hg) ?_
    exact k ls (mjFr_st hF (mjsc_c (mjsc_h hF.2.1) hF.2.1))
  · cases hres
theorem mjs_pop (hd : decode cc pc = .ok (.pop, 1)) : mjOk K l G M y own cc nL rt pc (mjpop (pc + 1)) := by
  refine mjOk_same fun call F res hres => ?_
  obtain ⟨al, st, h⟩ := F
  unfold mjpop at hres
  dsimp only at hres
  split at hres
  · rename_i v r
    cases hg : (v.category == 1)
    · rw [hg] at hres
      cases hres
    rw [hg] at hres
    cases hres
    refine ⟨_, _, rfl, rfl, fun d p e R s m args below meth c cx Q cells slots H locs ls ad hW hF hS hcl hsl k => ?_⟩
    have hz := cx.2.2.2.2.2.2.2.2.1.cat
    obtain ⟨hx, hb, -⟩ := cx
    refine lv_pop hx hb hd (by rw [mjrn_cat hz]; exact by simpa using hg) ?_
    exact k ls (mjFr_st hF (mjsc_t hF.2.1))
  · cases hres
theorem mjs_dup2 (hd : decode cc pc = .ok (.dup2, 1)) : mjOk K l G M y own cc nL rt pc (mjdup2 (pc + 1)) := by
  refine mjOk_same fun call F res hres => ?_
  obtain ⟨al, st, h⟩ := F
  unfold mjdup2 at hres
  dsimp only at hres
  split at hres
  · rename_i v w r
    cases hg : (v.category == 1 && w.category == 1)
    · rw [hg] at hres
      cases hres
    rw [hg] at hres
    cases hres
    rw [Bool.and_eq_true] at hg
    refine ⟨_, _, rfl, rfl, fun d p e R s m args below meth c cx Q cells slots H locs ls ad hW hF hS hcl hsl k => ?_⟩
    have hz := cx.2.2.2.2.2.2.2.2.1.cat
    obtain ⟨hx, hb, -⟩ := cx
    refine lv_dup2_11 hx hb hd (by rw [mjrn_cat hz]; exact by simpa using hg.1) (by rw [mjrn_cat hz]; exact by simpa using hg.2) ?_
    exact k ls (mjFr_st hF (mjsc_c (mjsc_h hF.2.1) (mjsc_c (mjsc_h (mjsc_t hF.2.1)) hF.2.1)))
  · cases hres
theorem mjs_ifnull {off : Int} {tgt : Nat} (hd : decode cc pc = .ok (.ifnull off, 3)) (ht : (pc : Int) + off = (tgt : Int)) : mjOk K l G M y own cc nL rt pc (mjifnull tgt (pc + 3)) := by
  refine mjOk_same fun call F res hres => ?_
  obtain ⟨al, st, h⟩ := F
  unfold mjifnull at hres
  dsimp only at hres
  split at hres
  · rename_i r
    cases hres
    refine ⟨_, _, rfl, rfl, fun d p e R s m args below meth c cx Q cells slots H locs ls ad hW hF hS hcl hsl k => ?_⟩
    obtain ⟨hx, hb, -⟩ := cx
    refine lv_ifnullN hx hb hd ht ?_
    exact k ls (mjFr_st hF (mjsc_t hF.2.1))
  · rename_i q r
    cases hres
    refine ⟨_, _, rfl, rfl, fun d p e R s m args below meth c cx Q cells slots H locs ls ad hW hF hS hcl hsl k => ?_⟩
    obtain ⟨hx, hb, -⟩ := cx
    refine lv_ifnull hx hb hd ?_
    exact k ls (mjFr_st hF (mjsc_t hF.2.1))
  · cases hres
theorem mjs_ifnonnull {off : Int} {tgt : Nat} (hd : decode cc pc = .ok (.ifnonnull off, 3)) (ht : (pc : Int) + off = (tgt : Int)) : mjOk K l G M y own cc nL rt pc (mjifnull (pc + 3) tgt) := by
  refine mjOk_same fun call F res hres => ?_
  obtain ⟨al, st, h⟩ := F
  unfold mjifnull at hres
  dsimp only at hres
  split at hres
  · rename_i r
    cases hres
    refine ⟨_, _, rfl, rfl, fun d p e R s m args below meth c cx Q cells slots H locs ls ad hW hF hS hcl hsl k => ?_⟩
    obtain ⟨hx, hb, -⟩ := cx
    refine lv_ifnonnullN hx hb hd ?_
    exact k ls (mjFr_st hF (mjsc_t hF.2.1))
  · rename_i q r
    cases hres
    refine ⟨_, _, rfl, rfl, fun d p e R s m args below meth c cx Q cells slots H locs ls ad hW hF hS hcl hsl k => ?_⟩
    obtain ⟨hx, hb, -⟩ := cx
    refine lv_ifnonnull hx hb hd ht ?_
    exact k ls (mjFr_st hF (mjsc_t hF.2.1))
  · cases hres
theorem mjOk_ret {op : MOp} {ins : Instr} (hd : decode cc pc = .ok (ins, 1)) (hop : ∀ (call : MCall) (F : MF) (res : (Nat × MF) ⊕ (MO × MH)), op call F = some res → ∃ o : Option Value, res = .inr (.inl o, F.2.2) ∧ F.2.1 = o.toList ∧ mjri rt ins o) : mjOk K l G M y own cc nL rt pc op := by
  intro d call hc F res hres
  obtain ⟨o, rfl, h1, h2⟩ := hop call F res hres
  refine ⟨mjmono.rf, ?_⟩
  intro p e R s m args below meth c cx Q c0 s0 cells slots H locs ls ad hW hF hS h3 h4 h5 h6 kn kr
  exact kr o _ rfl rfl h1 ins h2 hd
theorem mjs_iret (hr : rt = some .int) (hd : decode cc pc = .ok (.ireturn, 1)) : mjOk K l G M y own cc nL rt pc (mjiret) := by
  refine mjOk_ret hd fun call F res hres => ?_
  obtain ⟨al, st, h⟩ := F
  unfold mjiret at hres
  dsimp only at hres
  split at hres
  · rename_i x
    cases hres
    exact ⟨_, rfl, rfl, Or.inl ⟨.int, x, hr, rfl, rfl, rfl⟩⟩
  · cases hres
theorem mjs_zret (hr : rt = some .boolean) (hd : decode cc pc = .ok (.ireturn, 1)) : mjOk K l G M y own cc nL rt pc (mjzret) := by
  refine mjOk_ret hd fun call F res hres => ?_
  obtain ⟨al, st, h⟩ := F
  unfold mjzret at hres
  dsimp only at hres
  split at hres
  · rename_i x
    cases hg : (decide (x = 0) || decide (x = 1))
    · rw [hg] at hres
      cases hres
    rw [hg] at hres
    cases hres
    exact ⟨_, rfl, rfl, Or.inl ⟨.boolean, x, hr, by simp at hg; rcases hg with rfl | rfl <;> decide, rfl, rfl⟩⟩
  · cases hres
theorem mjs_cret (hr : rt = some .char) (hd : decode cc pc = .ok (.ireturn, 1)) : mjOk K l G M y own cc nL rt pc (mjcret) := by
  refine mjOk_ret hd fun call F res hres => ?_
  obtain ⟨al, st, h⟩ := F
  unfold mjcret at hres
  dsimp only at hres
  split at hres
  · rename_i x
    cases hg : (decide ((x.toUInt32 % 65536).toInt32 = x))
    · rw [hg] at hres
      cases hres
    rw [hg] at hres
    cases hres
    exact ⟨_, rfl, rfl, Or.inl ⟨.char, x, hr, by simp only [decide_eq_true_eq] at hg; show Value.int _ = _; exact congrArg Value.int hg, rfl, rfl⟩⟩
  · cases hres
theorem mjs_lret (hr : rt = some .long) (hd : decode cc pc = .ok (.lreturn, 1)) : mjOk K l G M y own cc nL rt pc (mjlret) := by
  refine mjOk_ret hd fun call F res hres => ?_
  obtain ⟨al, st, h⟩ := F
  unfold mjlret at hres
  dsimp only at hres
  split at hres
  · rename_i x
    cases hres
    exact ⟨_, rfl, rfl, Or.inr (Or.inl ⟨x, hr, rfl, rfl⟩)⟩
  · cases hres
theorem mjs_aret (hr : ∃ n, rt = some (.object n)) (hd : decode cc pc = .ok (.areturn, 1)) : mjOk K l G M y own cc nL rt pc (mjaret) := by
  refine mjOk_ret hd fun call F res hres => ?_
  obtain ⟨al, st, h⟩ := F
  unfold mjaret at hres
  dsimp only at hres
  split at hres
  · rename_i x
    cases hres
    exact ⟨_, rfl, rfl, Or.inr (Or.inr (Or.inl ⟨hr, rfl, Or.inr ⟨x, rfl⟩⟩))⟩
  · cases hres
    exact ⟨_, rfl, rfl, Or.inr (Or.inr (Or.inl ⟨hr, rfl, Or.inl rfl⟩))⟩
  · cases hres
theorem mjs_vret (hr : rt = none) (hd : decode cc pc = .ok (.return_, 1)) : mjOk K l G M y own cc nL rt pc (mjvret) := by
  refine mjOk_ret hd fun call F res hres => ?_
  obtain ⟨al, st, h⟩ := F
  unfold mjvret at hres
  dsimp only at hres
  split at hres
  · cases hres
    exact ⟨_, rfl, rfl, Or.inr (Or.inr (Or.inr ⟨hr, rfl, rfl⟩))⟩
  · cases hres
end MJ1
