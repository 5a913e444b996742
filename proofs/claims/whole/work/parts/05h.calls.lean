/-! switches and calls -/
def mjswok (pc : Nat) : List (Int × Int) → List (Int32 × Nat) → Bool
  | [], [] => true
  | a :: r, b :: t => (decide (b.1.toInt = a.1) && decide ((pc : Int) + a.2 = (b.2 : Int))) && mjswok pc r t
  | _, _ => false
theorem mjsw_at {pc : Nat} {df : Int} {d : Nat} (hd : (pc : Int) + df = (d : Int)) (x : Int32) : ∀ (ps : List (Int × Int)) (L : List (Int32 × Nat)), mjswok pc ps L = true → (pc : Int) + Op.lookupswitch.offset ps df x.toInt = (mjsel x L d : Int)
  | [], [], _ => hd
  | [], _ :: _, h => by cases h
  | _ :: _, [], h => by cases h
  | (a, o) :: r, (k, t) :: L, h => by
    simp only [mjswok, Bool.and_eq_true, decide_eq_true_eq] at h
    obtain ⟨⟨h1, h2⟩, h3⟩ := h
    unfold mjsel
    by_cases e : x = k
    · rw [decide_eq_true e]
      subst e
      rw [Op.lookupswitch.offset_cons, if_pos h1.symm]
      exact h2
    · rw [decide_eq_false e, lv_osw e h1]
      exact mjsw_at hd x r L h3
def mjtbok (pc : Nat) : Int → List Int → List (Int32 × Nat) → Bool
  | _, [], [] => true
  | a, o :: r, b :: t => (decide (b.1.toInt = a) && decide ((pc : Int) + o = (b.2 : Int))) && mjtbok pc (a + 1) r t
  | _, _, _ => false
theorem mjtb_at {pc d : Nat} (x : Int32) : ∀ (a : Int) (offs : List Int) (L : List (Int32 × Nat)), mjtbok pc a offs L = true →
    ((x.toInt < a ∨ a + offs.length ≤ x.toInt) → mjsel x L d = d) ∧ (a ≤ x.toInt → x.toInt < a + offs.length → ∃ o, offs[(x.toInt - a).toNat]? = some o ∧ (pc : Int) + o = (mjsel x L d : Int))
  | a, [], [], _ => ⟨fun _ => rfl, fun h1 h2 => by simp at h2; omega⟩
  | _, [], _ :: _, h => by cases h
  | _, _ :: _, [], h => by cases h
  | a, o :: r, (k, t) :: L, h => by
    simp only [mjtbok, Bool.and_eq_true, decide_eq_true_eq] at h
    obtain ⟨⟨h1, h2⟩, h3⟩ := h
    obtain ⟨i1, i2⟩ := mjtb_at (d := d) x (a + 1) r L h3
    unfold mjsel
    by_cases e : x = k
    · rw [decide_eq_true e]
      subst e
      rw [h1]
      refine ⟨fun q => ?_, fun _ _ => ⟨o, by simp, h2⟩⟩
      rcases q with q | q
      · omega
      · rw [List.length_cons] at q
        omega
    · have e2 : x.toInt ≠ a := fun q => e (Int32.toInt_inj.mp (by rw [h1, q]))
      rw [decide_eq_false e]
      rw [List.length_cons]
      refine ⟨fun q => i1 ?_, fun q1 q2 => ?_⟩
      · rcases q with q | q
        · left
          omega
        · right
          omega
      · obtain ⟨o9, g1, g2⟩ := i2 (by omega) (by omega)
        refine ⟨o9, ?_, g2⟩
        have e3 : (x.toInt - a).toNat = (x.toInt - (a + 1)).toNat + 1 := by omega
        rw [e3]
        simpa using g1
def mjlk (c : Nat) : List (Nat × Nat) → Option Nat
  | [] => none
  | q :: r => bif Nat.beq c q.1 then some q.2 else mjlk c r
theorem mjlk_in {c j : Nat} : ∀ {L : List (Nat × Nat)}, mjlk c L = some j → (c, j) ∈ L
  | [], h => by cases h
  | (a, b) :: r, h => by
    unfold mjlk at h
    cases e : Nat.beq c a
    · rw [e] at h
      exact List.mem_cons_of_mem _ (mjlk_in h)
    · rw [e] at h
      cases h
      rw [Nat.eq_of_beq_eq_true e]
      exact List.mem_cons_self
theorem mjg_at {n : Nat} {st : List Value} (h : mjg n st = true) : n ≤ st.length ∧ (∀ v ∈ (st.take n).reverse, v.category = 1) ∧ ((st.drop n).map fun v => v.category).sum ≤ 8 := by
  unfold mjg at h
  simp only [Bool.and_eq_true, List.all_eq_true, beq_iff_eq] at h
  exact ⟨Nat.le_of_ble_eq_true h.1, fun v hv => h.2.1 v (List.mem_reverse.mp hv), Nat.le_of_ble_eq_true h.2.2⟩
theorem mj_gi {G ws : List Cond} {c0 : Cond} (hG : ∀ w ∈ G, goodWord w = true) (h : ∀ w ∈ ws, w ∈ G) : GoodIn (c0 :: G) ws := fun w hw => ⟨List.mem_cons_of_mem _ (h w hw), good_of_word (hG w (h w hw))⟩
theorem mj_cG {G : List Cond} {c0 : Cond} (h : c0 ∈ G) : ∀ w ∈ (c0 :: G), w ∈ G := fun w hw => (List.mem_cons.mp hw).elim (fun e => by rw [e]; exact h) id
section MJ5
variable {K : MK} {l : Launch} {G : List Cond} {M : MT} {y : MethodName} {own : String} {cc : ByteArray} {nL : Nat} {rt : Option FieldType} {pc : Nat}
theorem mjs_lookup {df : Int} {ps : Array (Int × Int)} {len d : Nat} {L : List (Int32 × Nat)} (hd : decode cc pc = .ok (.lookupswitch df ps, len)) (hp : (ps.toList.zip (ps.toList.drop 1)).all (fun (a, next) => a.1 < next.1) = true) (hL : mjswok pc ps.toList L = true) (ht : (pc : Int) + df = (d : Int)) : mjOk K l G M y own cc nL rt pc (mjswitch L d) := by
  refine mjOk_same fun call F res hres => ?_
  obtain ⟨al, st, h⟩ := F
  unfold mjswitch at hres
  dsimp only at hres
  split at hres
  · rename_i x r
    cases hres
    refine ⟨_, _, rfl, rfl, fun d9 p e R s m args below meth c cx Q cells slots H locs ls ad hW hF hS hcl hsl k => ?_⟩
    obtain ⟨hx, hb, -⟩ := cx
    exact lv_lookup hx hb hd hp rfl (mjsw_at ht x _ _ hL) (k ls (mjFr_st hF (mjsc_t hF.2.1)))
  · cases hres
theorem mjs_table {df lo hi : Int} {offs : Array Int} {len d : Nat} {L : List (Int32 × Nat)} (hd : decode cc pc = .ok (.tableswitch df lo hi offs, len)) (hh : lo + offs.toList.length = hi + 1) (hL : mjtbok pc lo offs.toList L = true) (ht : (pc : Int) + df = (d : Int)) : mjOk K l G M y own cc nL rt pc (mjswitch L d) := by
  refine mjOk_same fun call F res hres => ?_
  obtain ⟨al, st, h⟩ := F
  unfold mjswitch at hres
  dsimp only at hres
  split at hres
  · rename_i x r
    cases hres
    refine ⟨_, _, rfl, rfl, fun d9 p e R s m args below meth c cx Q cells slots H locs ls ad hW hF hS hcl hsl k => ?_⟩
    obtain ⟨hx, hb, -⟩ := cx
    have k9 := k ls (mjFr_st hF (mjsc_t hF.2.1))
    obtain ⟨t1, t2⟩ := mjtb_at (d := d) x lo offs.toList L hL
    by_cases q1 : x.toInt < lo
    · have e9 := t1 (Or.inl q1)
      rw [e9] at k9
      exact lv_tableOut hx hb hd (Or.inl q1) ht k9
    by_cases q2 : hi < x.toInt
    · have e9 := t1 (Or.inr (by omega))
      rw [e9] at k9
      exact lv_tableOut hx hb hd (Or.inr q2) ht k9
    obtain ⟨o, g1, g2⟩ := t2 (by omega) (by omega)
    exact lv_tableIn hx hb hd q1 q2 (by simpa using g1) g2 k9
  · cases hres
/-- behind a call -/
theorem mj_after {p : Program} {e : Env} {R : Room} {s : State} {m : MethodId} {args : Array Value} {below : List Frame} {meth : Method} {c : Code} {H : Heap} {locs : List Loc} {cells slots mc ms : Nat} {Q : State → Prop} {ls : Array Slot} {st0 rest : List Value} {ad : Nat → Nat} {h h' : MH} {o : Option Value} {a : Array Value}
    (hr : va_Run p l e R s m args below meth c H locs cells slots mc ms (F0 m pc ls st0) rest (mjQm K ad h o h' a) (mkA K)) (hS : va_S (mkA K) s.heap H locs)
    (kk : ∀ (ad' : Nat → Nat) (H1 : Heap) (locs1 : List Loc), mjExt ad ad' (mjN h) → mjWd K ad' h' H1 → (∀ v, o = some v → mjsc (mjN h') v) → va_S (mkA K) s.heap H1 locs1 → W p l e R s m args below meth c H1 locs1 (cells + mc) (slots + ms) Q (F0 m (pc + 3) ls ((o.map (mjrn (mkZ K) ad')).toList ++ rest))) : W p l e R s m args below meth c H locs cells slots Q (F0 m pc ls st0) := by
  intro T hT X
  obtain ⟨v, st₀, t, T', L, h0, X', hL, e1, e2, ⟨⟨ad', hv, hext, hwd, hsc⟩, hz, hk⟩, st⟩ := hr T hT X
  cases hv
  rw [h0] at hz hk
  rw [← e1] at hwd hz hk
  obtain ⟨t2, a1, b1⟩ := kk ad' T'.heap (locs ++ L) hext hwd hsc ⟨Nat.le_trans hS.1 hz, fun q h1 h2 => by
      rw [hk q (Nat.lt_of_lt_of_le h1 hS.1) h2]
      exact hS.2.1 q h1 h2, fun q hq => by
      rcases List.mem_append.mp hq with z | z
      · exact hS.2.2 q z
      · exact hL q z⟩ T' rfl X'
  exact ⟨t2, st t2 a1, b1⟩
theorem mjPm_blind {ad : Nat → Nat} {h : MH} {as : List Value} : FrameBlind (mjPm K ad h as) := fun a U g mk q => ⟨q.1, mjEn.blind q.2.1, q.2.2⟩
theorem mjPm_at {ad : Nat → Nat} {h : MH} {as : List Value} {s : State} {H : Heap} {locs : List Loc} (hen : mjEn K s s.heap) (hS : va_S (mkA K) s.heap H locs) (hW : mjWd K ad h H) : ∀ U : State, U.heap = H → s.WarmedH U.vm → mjPm K ad h as (as.map (mjrn (mkZ K) ad)).toArray U := fun U hU hWm => ⟨rfl, hen.go hS hU hWm, by rw [hU]; exact hW⟩
/-- what all kinds of calls need: the callee's place in the table -/
def mjtb (G : List Cond) (M : MT) (j n : Nat) (y' : MethodName) (cc' : ByteArray) (nL' : Nat) (rt' : Option FieldType) : Prop :=
  M j = (y', cc', nL', rt') ∧ Cond.code y' cc' nL' rt' ∈ G ∧ n ≤ nL' ∧ nL' ≤ 41
/-- a call, by the run of its kind -/
theorem mj_call {j n : Nat} {y' : MethodName} {cc' : ByteArray} {nL' : Nat} {rt' : Option FieldType} {d : Nat} {call : MCall} (hcall : mjCall K l G M d call) (hM : mjtb G M j n y' cc' nL' rt') {al : List (Option Value)} {st : List Value} {h : MH} {res : (Nat × MF) ⊕ (MO × MH)} (hg : mjg n st = true) (hres : mjcont (al, st, h) n (pc + 3) (call j (st.take n).reverse h) = some res)
    (run : ∀ (d' mc ms : Nat) (o : Option Value) (h' : MH) (p : Program) (e : Env) (R : Room) (s : State) (m : MethodId) (args : Array Value) (below : List Frame) (meth : Method) (c : Code) (H : Heap) (locs : List Loc) (cells slots : Nat) (ls : Array Slot) (ad : Nat → Nat), d = d' + 1 → mjCx K G y own cc nL rt d p R s m args meth c → mjWd K ad h H → va_S (mkA K) s.heap H locs → ls.size = nL →
      cells + mc ≤ R.cells ∧ slots + ms ≤ R.slots → (((st.drop n).map (mjrn (mkZ K) ad)).map fun v => v.category).sum ≤ 8 →
      Met l y' (.code y' cc' nL' rt' :: G) (mjrm d' mc ms) (mjPm K ad h (st.take n).reverse) (mjQm K ad h o h') mc ms (mkA K) → ((mjrm d' mc ms).frames + 1 ≤ R.frames ∧ 8 + (nL' + 11) + (mjrm d' mc ms).locals ≤ R.locals) →
      va_Run p l e R s m args below meth c H locs cells slots mc ms (F0 m pc ls (st.map (mjrn (mkZ K) ad))) ((st.drop n).map (mjrn (mkZ K) ad)) (mjQm K ad h o h' ((st.take n).reverse.map (mjrn (mkZ K) ad)).toArray) (mkA K)) :
    mjmono h (mjrh res) ∧
    ∀ (p : Program) (e : Env) (R : Room) (s : State) (m : MethodId) (args : Array Value) (below : List Frame) (meth : Method) (c : Code), mjCx K G y own cc nL rt d p R s m args meth c →
    ∀ (Q : State → Prop) (c0 s0 cells slots : Nat) (H : Heap) (locs : List Loc) (ls : Array Slot) (ad : Nat → Nat),
      mjWd K ad h H → mjFr K ad nL (al, st, h) ls → va_S (mkA K) s.heap H locs → c0 + cells = mjC h → s0 + slots = mjS h → mjC (mjrh res) ≤ c0 + R.cells → mjS (mjrh res) ≤ s0 + R.slots →
      (∀ (pc' : Nat) (F' : MF), res = .inl (pc', F') → ∀ (ad' : Nat → Nat) (H' : Heap) (locs' : List Loc) (ls' : Array Slot) (cells' slots' : Nat), mjExt ad ad' (mjN h) → mjWd K ad' F'.2.2 H' → mjFr K ad' nL F' ls' → va_S (mkA K) s.heap H' locs' → c0 + cells' = mjC F'.2.2 → s0 + slots' = mjS F'.2.2 → W p l e R s m args below meth c H' locs' cells' slots' Q (F0 m pc' ls' (F'.2.1.map (mjrn (mkZ K) ad')))) →
      W p l e R s m args below meth c H locs cells slots Q (F0 m pc ls (st.map (mjrn (mkZ K) ad))) := by
  unfold mjcont at hres
  dsimp only at hres
  split at hres
  · rename_i o h' hcl
    cases hres
    obtain ⟨hmono, hct⟩ := hcall j _ h _ h' hcl
    obtain ⟨d', hdd, hct⟩ := hct o rfl
    refine ⟨hmono, ?_⟩
    intro p e R s m args below meth c cx Q c0 s0 cells slots H locs ls ad hW hF hS h1 h2 h3 h4 kn
    obtain ⟨g1, g2, g3⟩ := mjg_at hg
    obtain ⟨m1, m2, m3, m4⟩ := hM
    have hz := cx.2.2.2.2.2.2.2.2.1.cat
    have hlen : (st.take n).reverse.length = n := by simp [g1]
    have hct := hct ad (fun v hv => hF.2.1 v (List.mem_of_mem_take (List.mem_reverse.mp hv))) (by rw [hlen, m1]; exact m3) g2
    rw [m1] at hct
    dsimp only at hct
    have h3 : mjC h' ≤ c0 + R.cells := h3
    have h4 : mjS h' ≤ s0 + R.slots := h4
    have h1 : c0 + cells = mjC h := h1
    have h2 : s0 + slots = mjS h := h2
    have hm1 := hmono.2.1
    have hm2 := hmono.2.2
    have hrun := run d' (mjC h' - mjC h) (mjS h' - mjS h) o h' p e R s m args below meth c H locs cells slots ls ad hdd cx hW hS hF.1.1 (by omega) (by rw [mjrn_sum hz]; exact g3) hct (by
      have := cx.2.2.2.2.2.2.2.2.2.1
      have := cx.2.2.2.2.2.2.2.2.2.2
      show 20 + d' + 1 ≤ _ ∧ 8 + (nL' + 11) + (600 + 60 * d') ≤ _
      omega)
    refine mj_after hrun hS (fun ad' H1 locs1 he hW1 hsc hS1 => ?_)
    have hsr : ∀ v ∈ st.drop n, mjsc (mjN h) v := fun v hv => hF.2.1 v (List.mem_of_mem_drop hv)
    have k9 := kn (pc + 3) (al, o.toList ++ st.drop n, h') rfl ad' H1 locs1 ls (cells + (mjC h' - mjC h)) (slots + (mjS h' - mjS h)) he hW1 ⟨mjlr_ext hF.1 he hF.2.2, fun v hv => by
      rcases List.mem_append.mp hv with q | q
      · exact hsc v (by simpa using q)
      · exact mjsc_mono hmono.1 (hsr v q), fun v hv => mjsc_mono hmono.1 (hF.2.2 v hv)⟩ hS1 (by show _ = mjC h'; omega) (by show _ = mjS h'; omega)
    have e9 : (o.toList ++ st.drop n).map (mjrn (mkZ K) ad') = (o.map (mjrn (mkZ K) ad')).toList ++ (st.drop n).map (mjrn (mkZ K) ad) := by
      rw [List.map_append, mjrn_map he hsr]
      cases o <;> rfl
    have k9 : W p l e R s m args below meth c H1 locs1 (cells + (mjC h' - mjC h)) (slots + (mjS h' - mjS h)) Q (F0 m (pc + 3) ls ((o.toList ++ st.drop n).map (mjrn (mkZ K) ad'))) := k9
    rw [e9] at k9
    exact k9
  · cases hres
theorem mj_split {n : Nat} {st : List Value} {ad : Nat → Nat} : st.map (mjrn (mkZ K) ad) = ((st.take n).reverse.map (mjrn (mkZ K) ad)).reverse ++ (st.drop n).map (mjrn (mkZ K) ad) := by
  rw [List.map_reverse, List.reverse_reverse, ← List.map_append, List.take_append_drop]
/-- a static call -/
theorem mjs_static {j n idx : Nat} {y' : MethodName} {cc' : ByteArray} {nL' : Nat} {rt' : Option FieldType} (hG : ∀ w ∈ G, goodWord w = true) (hd : decode cc pc = .ok (.invokestatic idx, 3)) (hM : mjtb G M j n y' cc' nL' rt') (w1 : Cond.methodLink own idx y' ∈ G) (w2 : Cond.static y' ∈ G) (w3 : Cond.initialized y'.cls ∈ G)
    (hdd : y'.cls ≠ "java/lang/invoke/MethodHandle" ∧ y'.cls ≠ "java/lang/invoke/VarHandle" ∧ (parseMethodDescriptor y'.desc).map (fun d => d.parameters.length) = some n) : mjOk K l G M y own cc nL rt pc (mjcallS j n (pc + 3)) := by
  intro d call hcall F res hres
  obtain ⟨al, st, h⟩ := F
  unfold mjcallS at hres
  dsimp only at hres
  cases hg : mjg n st
  · rw [hg] at hres
    cases hres
  rw [hg] at hres
  obtain ⟨k1, k2⟩ := mj_call (pc := pc) (y := y) (own := own) (cc := cc) (nL := nL) (rt := rt) hcall hM hg hres (by
    intro d' mc ms o h' p e R s m args below meth c H locs cells slots ls ad hd9 cx hW hS hsz hcs hsum hct hrm
    obtain ⟨hx, hb, hml, hr, hts, hown, hlk, hnm, hen, -⟩ := cx
    have w9 : ∀ w ∈ G, w.before args s = true := fun w hw => hts w (List.mem_cons_of_mem _ hw)
    have hlen : ((st.take n).reverse.map (mjrn (mkZ K) ad)).length = n := by simp [(mjg_at hg).1]
    exact va_runS (As := (st.take n).reverse.map (mjrn (mkZ K) ad)) ⟨hx, hb, hml, hown, hts⟩ hct ⟨callB_of n hts (mj_gi hG (mj_cG hM.2.1)) rfl rfl rfl (w9 _ w3) (w9 _ w1) hdd hrm, w9 _ w2⟩ ⟨mjPm_blind, mjPm_at hen hS hW⟩ rfl hlen hsz mj_split (lv_room hsum) hd hcs)
  exact ⟨k1, fun p e R s m args below meth c cx Q c0 s0 cells slots H locs ls ad hW hF hS h1 h2 h3 h4 kn kr => k2 p e R s m args below meth c cx Q c0 s0 cells slots H locs ls ad hW hF hS h1 h2 h3 h4 kn⟩
/-- a static call of a nest mate's private method -/
theorem mjs_staticN {j n idx : Nat} {y' : MethodName} {cc' : ByteArray} {nL' : Nat} {rt' : Option FieldType} (hG : ∀ w ∈ G, goodWord w = true) (hd : decode cc pc = .ok (.invokestatic idx, 3)) (hM : mjtb G M j n y' cc' nL' rt') (w1 : (own, idx, y') ∈ mjnest) (w2 : Cond.static y' ∈ G) (w3 : Cond.initialized y'.cls ∈ G)
    (hdd : y'.cls ≠ "java/lang/invoke/MethodHandle" ∧ y'.cls ≠ "java/lang/invoke/VarHandle" ∧ (parseMethodDescriptor y'.desc).map (fun d => d.parameters.length) = some n) : mjOk K l G M y own cc nL rt pc (mjcallS j n (pc + 3)) := by
  intro d call hcall F res hres
  obtain ⟨al, st, h⟩ := F
  unfold mjcallS at hres
  dsimp only at hres
  cases hg : mjg n st
  · rw [hg] at hres
    cases hres
  rw [hg] at hres
  obtain ⟨k1, k2⟩ := mj_call (pc := pc) (y := y) (own := own) (cc := cc) (nL := nL) (rt := rt) hcall hM hg hres (by
    intro d' mc ms o h' p e R s m args below meth c H locs cells slots ls ad hd9 cx hW hS hsz hcs hsum hct hrm
    obtain ⟨hx, hb, hml, hr, hts, hown, hlk, hnm, hen, -⟩ := cx
    have w9 : ∀ w ∈ G, w.before args s = true := fun w hw => hts w (List.mem_cons_of_mem _ hw)
    have hlen : ((st.take n).reverse.map (mjrn (mkZ K) ad)).length = n := by simp [(mjg_at hg).1]
    exact va_runSN (As := (st.take n).reverse.map (mjrn (mkZ K) ad)) (host := mjhost) ⟨hx, hb, hml, hown, hts⟩ hct ⟨va_cnB n hts (mj_gi hG (mj_cG hM.2.1)) rfl rfl rfl (hen.2.1 _ w1) (w9 _ w3) hdd hrm, w9 _ w2, trivial⟩ ⟨mjPm_blind, mjPm_at hen hS hW⟩ rfl hlen hsz mj_split (lv_room hsum) hd hcs)
  exact ⟨k1, fun p e R s m args below meth c cx Q c0 s0 cells slots H locs ls ad hW hF hS h1 h2 h3 h4 kn kr => k2 p e R s m args below meth c cx Q c0 s0 cells slots H locs ls ad hW hF hS h1 h2 h3 h4 kn⟩
end MJ5
