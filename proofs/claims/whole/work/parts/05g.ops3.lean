/-! new cells, copies, Math, switches -/
theorem mjdef_ok : ∀ (c : Nat) (q : vw_C), vwCl[c]? = some q → ∀ j, j < q.2.2 → defaultValue (mjty c j) = bif mjrf (q.2.1 j).2.2.1 then .null else .int 0
  | 0, q, h => by cases h; decide +kernel
  | 1, q, h => by cases h; decide +kernel
  | 2, q, h => by cases h; decide +kernel
  | 3, q, h => by cases h; decide +kernel
  | 4, q, h => by cases h; decide +kernel
  | 5, q, h => by cases h; decide +kernel
  | 6, q, h => by cases h; decide +kernel
  | 7, q, h => by cases h; decide +kernel
  | 8, q, h => by cases h; decide +kernel
  | 9, q, h => by cases h; decide +kernel
  | 10, q, h => by cases h; decide +kernel
  | 11, q, h => by cases h; decide +kernel
  | 12, q, h => by cases h; decide +kernel
  | n + 13, q, h => by simp [vwCl] at h
theorem mjExt_up {ad : Nat → Nat} {N q : Nat} (hN : N < 900000) : mjExt ad (va_up ad N q) N := fun k hk => va_up_ne _ _ (by omega)
theorem mjw_new {K : MK} {ad : Nat → Nat} {h : MH} {H : Heap} {t n s q : Nat} (hW : mjWd K ad h H) (hN : mjN h < 900000) : mjw K (va_up ad (mjN h) q) (mjNew h t n s) = mjw K ad h ++ [(q, mjcel K (va_up ad (mjN h) q) (mjNew h t n s) (mjN h))] := by
  have e : List.range (mjN (mjNew h t n s)) = List.range (mjN h) ++ [mjN h] := List.range_succ
  unfold mjw
  rw [e, List.map_append]
  congr 1
  · apply List.map_congr_left
    intro k hk
    have hk : k < mjN h := List.mem_range.mp hk
    have hne : k ≠ mjN h := by omega
    rw [va_up_ne _ _ hne]
    refine congrArg (fun z => (ad k, z)) (mjcel_congr (mjR_ne hne) (fun j => ?_) (mjR_ne hne) ?_)
    · rw [show mjP (mjNew h t n s) k = mjP h k from mjR_ne hne]
      cases hp : mjP h k j with
      | none => rfl
      | some x =>
        have := hW.2.2.1 k j x hp
        show some _ = some _
        rw [va_up_ne _ _ (by omega)]
    · show (if k = mjN h then _ else _) = _
      rw [if_neg hne]
      rfl
  · show [(va_up ad (mjN h) q (mjN h), _)] = _
    rw [va_up_self]
theorem mjWd_new {K : MK} {ad : Nat → Nat} {h : MH} {H H1 : Heap} {t n s q : Nat} {e : va_E} (hW : mjWd K ad h H) (hN : mjN h < 900000) (he : mjcel K (va_up ad (mjN h) q) (mjNew h t n s) (mjN h) = e) (hP : va_P K.1 vwCl (mjw K ad h ++ [(q, e)]) H1) (hD : va_D (mkA K) (mjw K ad h ++ [(q, e)])) : mjWd K (va_up ad (mjN h) q) (mjNew h t n s) H1 := by
  subst he
  rw [← mjw_new hW hN] at hP hD
  refine ⟨hP, hD, ?_, hN, fun k hk => ?_, (mjR_ne (show (2000000 : Nat) ≠ mjN h by omega)).trans hW.2.2.2.2.2.1, ?_⟩
  · intro a b x hx
    have hx : mjR h.2.1 (mjN h) (fun _ => none) a b = some x := hx
    unfold mjR at hx
    split at hx
    · cases hx
    · rcases hW.2.2.1 a b x hx with z | z
      · exact Or.inl (Nat.lt_succ_of_lt z)
      · exact Or.inr z
  · rw [va_up_ne _ _ (by omega)]
    exact hW.2.2.2.2.1 k hk
  · show (if 2000000 = mjN h then _ else _ : Nat × Nat).2 = _
    rw [if_neg (by omega)]
    exact hW.2.2.2.2.2.2
theorem mjlr_new {K : MK} {ad : Nat → Nat} {h : MH} {t n s q nL : Nat} {al : List (Option Value)} {st r : List Value} {ls : Array Slot} (hF : mjFr K ad nL (al, st, h) ls) (hN : mjN h < 900000) (hr : ∀ v ∈ r, mjsc (mjN h) v) : mjFr K (va_up ad (mjN h) q) nL (al, .ref (mjN h) :: r, mjNew h t n s) ls := by
  refine ⟨mjlr_ext hF.1 (mjExt_up hN) hF.2.2, ?_, fun v hv => mjsc_mono (Nat.le_succ _) (hF.2.2 v hv)⟩
  refine mjsc_c (Or.inl (Nat.lt_succ_self _)) (fun v hv => mjsc_mono (Nat.le_succ _) (hr v hv))
section MJ4
variable {K : MK} {l : Launch} {G : List Cond} {M : MT} {y : MethodName} {own : String} {cc : ByteArray} {nL : Nat} {rt : Option FieldType} {pc : Nat}
theorem mjs_new (hL : mjLay G) {ci idx : Nat} {q : vw_C} (hd : decode cc pc = .ok (.new idx, 3)) (hc : vwCl[ci]? = some q) (hw1 : Cond.classLink own idx q.1 ∈ G) (hw2 : Cond.instantiable q.1 q.2.2 ∈ G) (hw3 : Cond.initialized q.1 ∈ G) : mjOk K l G M y own cc nL rt pc (mjnew ci q.2.2 (pc + 3)) := by
  intro d call hcall F res hres
  obtain ⟨al, st, h⟩ := F
  unfold mjnew at hres
  dsimp only at hres
  cases hg : Nat.blt (mjN h) 900000
  · rw [hg] at hres
    cases hres
  rw [hg] at hres
  cases hres
  have hN : mjN h < 900000 := by simpa [Nat.blt_eq] using hg
  refine ⟨⟨Nat.le_succ _, Nat.le_succ _, Nat.le_add_right _ _⟩, ?_⟩
  intro p e R s m args below meth c cx Q c0 s0 cells slots H locs ls ad hW hF hS h1 h2 h3 h4 kn kr
  obtain ⟨hx, hb, hml, hr, hts, hown, hlk, hnm, hen, -⟩ := cx
  have h3' : mjC h + 1 ≤ c0 + R.cells := h3
  have h4' : mjS h + q.2.2 ≤ s0 + R.slots := h4
  obtain ⟨C, T, N⟩ := q
  have w9 : ∀ w ∈ G, w.before args s = true := fun w hw => hts w (List.mem_cons_of_mem _ hw)
  refine va_new (D := K.1) (ci := ci) (fs := (List.range N).map (fun j => bif mjrf (T j).2.2.1 then .null else .int 0)) hx hb hts (fun w hw => List.mem_cons_of_mem _ (hL _ _ hc w hw)) (mjty ci) (mjty_ok _ _ hc).1 hown (w9 _ hw1) (w9 _ hw2) (w9 _ hw3) hen.1 hW.1 hW.2.1 hS hen.2.2.2.2.1 hc ?_ ?_ ?_ hd (fun qn H1 hP hD hS1 => ?_)
  · intro j hj
    rw [mjdef_ok _ _ hc j hj]
    simp [vp_V, List.getD, hj]
  · have : c0 + cells = mjC h := h1
    omega
  · have : s0 + slots = mjS h := h2
    show slots + N ≤ R.slots
    have h5 : mjS h + N ≤ s0 + R.slots := h4'
    omega
  · have hcel : mjcel K (va_up ad (mjN h) qn) (mjNew h ci 0 N) (mjN h) = .inr (ci, (List.range N).map (fun j => bif mjrf (T j).2.2.1 then .null else .int 0)) := by
      have ht : mjT (mjNew h ci 0 N) (mjN h) = (ci, 0) := by
        show (if mjN h = mjN h then _ else _) = _
        rw [if_pos rfl]
      rw [mjcel_obj (q := (C, T, N)) (by rw [ht]; exact hc), ht]
      have : mjov (va_up ad (mjN h) qn) (mjNew h ci 0 N) (mjN h) (C, T, N) = (List.range N).map (fun j => bif mjrf (T j).2.2.1 then .null else .int 0) := by
        unfold mjov
        apply List.map_congr_left
        intro j _
        unfold mjfv
        rw [show mjP (mjNew h ci 0 N) (mjN h) = fun _ => none from mjR_eq, show mjI (mjNew h ci 0 N) (mjN h) = fun _ => 0 from mjR_eq]
        rfl
      rw [this]
    have k9 := kn _ _ rfl (va_up ad (mjN h) qn) H1 locs ls (cells + 1) (slots + N) (mjExt_up hN) (mjWd_new (s := N) hW hN hcel hP hD) (mjlr_new hF hN hF.2.1) hS1 (by show c0 + (cells + 1) = mjC h + 1; have : c0 + cells = mjC h := h1; omega) (by show s0 + (slots + N) = mjS h + N; have : s0 + slots = mjS h := h2; omega)
    rw [List.map_cons, mjrn_map (mjExt_up hN) hF.2.1] at k9
    have e9 : mjrn (mkZ K) (va_up ad (mjN h) qn) (.ref (mjN h)) = .ref qn := congrArg Value.ref (va_up_self _ _ _)
    rw [e9] at k9
    exact k9
theorem mjs_newa {at9 : ArrayType} {t : Nat} {n : Int32} {N : Nat} {ty : FieldType} {q : vp_A} (hd : decode cc pc = .ok (.newarray at9, 2)) (hw : Cond.arrayClass (newarray.typeOf at9) ∈ G) (hty : newarray.typeOf at9 = ty) (hn : ¬ n < 0) (hN : n.toNatClampNeg = N) (hby : N * componentBytes ty ≤ 536870912)
    (hq : ∀ cA : ClassId, vp_cell cA q = arrV cA N (fun _ => defaultValue ty)) (hcase : (t = 13 ∧ ty = .int ∧ q = (N, .inl (fun _ => 0))) ∨ (t = 16 ∧ ty = .long ∧ q = (N, .inr (.inl (fun _ => 0))))) : mjOk K l G M y own cc nL rt pc (mjnewa t n N (pc + 2)) := by
  intro d call hcall F res hres
  obtain ⟨al, st, h⟩ := F
  unfold mjnewa at hres
  dsimp only at hres
  split at hres
  · rename_i x r
    cases hg : (Nat.blt (mjN h) 900000 && decide (x = n))
    · rw [hg] at hres
      cases hres
    rw [hg] at hres
    cases hres
    rw [Bool.and_eq_true, decide_eq_true_eq] at hg
    obtain ⟨hg, rfl⟩ := hg
    have hN9 : mjN h < 900000 := by simpa [Nat.blt_eq] using hg
    refine ⟨⟨Nat.le_succ _, Nat.le_succ _, Nat.le_add_right _ _⟩, ?_⟩
    intro p e R s m args below meth c cx Q c0 s0 cells slots H locs ls ad hW hF hS h1 h2 h3 h4 kn kr
    obtain ⟨hx, hb, hml, hr, hts, hown, hlk, hnm, hen, -⟩ := cx
    have h3' : mjC h + 1 ≤ c0 + R.cells := h3
    have h4' : mjS h + N ≤ s0 + R.slots := h4
    have h1' : c0 + cells = mjC h := h1
    have h2' : s0 + slots = mjS h := h2
    refine va_newa (D := K.1) (atype := at9) (ty := ty) (a0 := q) hx hb (hts _ (List.mem_cons_of_mem _ hw)) hty hen.1 hW.1 hW.2.1 hS hen.2.2.2.2.1 hq hn hN hby (by omega) (by omega) hd (fun qn cA H1 hK1 hP hD hS1 => ?_)
    have hcel : mjcel K (va_up ad (mjN h) qn) (mjNew h t N N) (mjN h) = .inl (cA, q) := by
      have ht : mjT (mjNew h t N N) (mjN h) = (t, N) := by
        show (if mjN h = mjN h then _ else _) = _
        rw [if_pos rfl]
      rcases hcase with ⟨rfl, rfl, rfl⟩ | ⟨rfl, rfl, rfl⟩
      · have ec : cA = K.2.1.1 := by
          have a1 := (hK1.2 4 (cA, .int) (by simp [mjtys])).2
          have a2 := (hK1.2 0 (K.2.1.1, .int) (by simp [mjtys])).2
          exact Option.some.inj ((Eq.symm a1).trans a2)
        rw [mjcel_i (by rw [ht]), ht, ec, show mjI (mjNew h 13 N N) (mjN h) = fun _ => 0 from mjR_eq]
      · have ec : cA = K.2.1.2.2.2 := by
          have a1 := (hK1.2 4 (cA, .long) (by simp [mjtys])).2
          have a2 := (hK1.2 3 (K.2.1.2.2.2, .long) (by simp [mjtys])).2
          exact Option.some.inj ((Eq.symm a1).trans a2)
        rw [mjcel_l (by rw [ht]), ht, ec, show mjL (mjNew h 16 N N) (mjN h) = fun _ => 0 from mjR_eq]
    have k9 := kn _ _ rfl (va_up ad (mjN h) qn) H1 locs ls (cells + 1) (slots + N) (mjExt_up hN9) (mjWd_new (s := N) hW hN9 hcel hP hD) (mjlr_new hF hN9 (mjsc_t hF.2.1)) hS1 (by show c0 + (cells + 1) = mjC h + 1; omega) (by show s0 + (slots + N) = mjS h + N; omega)
    rw [List.map_cons, mjrn_map (mjExt_up hN9) (mjsc_t hF.2.1)] at k9
    have e9 : mjrn (mkZ K) (va_up ad (mjN h) qn) (.ref (mjN h)) = .ref qn := congrArg Value.ref (va_up_self _ _ _)
    rw [e9] at k9
    exact k9
  · cases hres
theorem mjs_newq {t idx : Nat} {n : Int32} {N : Nat} {C : String} (hd : decode cc pc = .ok (.anewarray idx, 3)) (hw : Cond.classLink own idx C ∈ G) (hn : ¬ n < 0) (hN : n.toNatClampNeg = N) (hby : N * 4 ≤ 536870912)
    (hcase : (t = 14 ∧ C = "LookAtClock$Looker") ∨ (t = 15 ∧ C = "LookAtClock$Row")) : mjOk K l G M y own cc nL rt pc (mjnewa t n N (pc + 3)) := by
  intro d call hcall F res hres
  obtain ⟨al, st, h⟩ := F
  unfold mjnewa at hres
  dsimp only at hres
  split at hres
  · rename_i x r
    cases hg : (Nat.blt (mjN h) 900000 && decide (x = n))
    · rw [hg] at hres
      cases hres
    rw [hg] at hres
    cases hres
    rw [Bool.and_eq_true, decide_eq_true_eq] at hg
    obtain ⟨hg, rfl⟩ := hg
    have hN9 : mjN h < 900000 := by simpa [Nat.blt_eq] using hg
    refine ⟨⟨Nat.le_succ _, Nat.le_succ _, Nat.le_add_right _ _⟩, ?_⟩
    intro p e R s m args below meth c cx Q c0 s0 cells slots H locs ls ad hW hF hS h1 h2 h3 h4 kn kr
    obtain ⟨hx, hb, hml, hr, hts, hown, hlk, hnm, hen, -⟩ := cx
    have h3' : mjC h + 1 ≤ c0 + R.cells := h3
    have h4' : mjS h + N ≤ s0 + R.slots := h4
    have h1' : c0 + cells = mjC h := h1
    have h2' : s0 + slots = mjS h := h2
    refine va_newq (D := K.1) (C := C) hx hb hown (hts _ (List.mem_cons_of_mem _ hw)) (by rcases hcase with ⟨-, rfl⟩ | ⟨-, rfl⟩; exact hen.2.2.1.1; exact hen.2.2.1.2) hen.1 hW.1 hW.2.1 hS hen.2.2.2.2.1 hn hN hby (by omega) (by omega) hd (fun qn cA H1 hK1 hP hD hS1 => ?_)
    have hcel : mjcel K (va_up ad (mjN h) qn) (mjNew h t N N) (mjN h) = .inl (cA, N, .inr (.inr (.inr (.inr (fun _ => none))))) := by
      have ht : mjT (mjNew h t N N) (mjN h) = (t, N) := by
        show (if mjN h = mjN h then _ else _) = _
        rw [if_pos rfl]
      rcases hcase with ⟨rfl, rfl⟩ | ⟨rfl, rfl⟩
      · have ec : cA = K.2.1.2.1 := by
          obtain ⟨_, _, -, -, -, a1⟩ := (hK1.2 4 (cA, .object "LookAtClock$Looker") (by simp [mjtys])).2
          obtain ⟨_, _, -, -, -, a2⟩ := (hK1.2 1 (K.2.1.2.1, .object "LookAtClock$Looker") (by simp [mjtys])).2
          exact Option.some.inj ((Eq.symm a1).trans a2)
        rw [mjcel_q (by rw [ht]), ht, ec, show mjP (mjNew h 14 N N) (mjN h) = fun _ => none from mjR_eq]
        rfl
      · have ec : cA = K.2.1.2.2.1 := by
          obtain ⟨_, _, -, -, -, a1⟩ := (hK1.2 4 (cA, .object "LookAtClock$Row") (by simp [mjtys])).2
          obtain ⟨_, _, -, -, -, a2⟩ := (hK1.2 2 (K.2.1.2.2.1, .object "LookAtClock$Row") (by simp [mjtys])).2
          exact Option.some.inj ((Eq.symm a1).trans a2)
        rw [mjcel_r (by rw [ht]), ht, ec, show mjP (mjNew h 15 N N) (mjN h) = fun _ => none from mjR_eq]
        rfl
    have k9 := kn _ _ rfl (va_up ad (mjN h) qn) H1 locs ls (cells + 1) (slots + N) (mjExt_up hN9) (mjWd_new (s := N) hW hN9 hcel hP hD) (mjlr_new hF hN9 (mjsc_t hF.2.1)) hS1 (by show c0 + (cells + 1) = mjC h + 1; omega) (by show s0 + (slots + N) = mjS h + N; omega)
    rw [List.map_cons, mjrn_map (mjExt_up hN9) (mjsc_t hF.2.1)] at k9
    have e9 : mjrn (mkZ K) (va_up ad (mjN h) qn) (.ref (mjN h)) = .ref qn := congrArg Value.ref (va_up_self _ _ _)
    rw [e9] at k9
    exact k9
  · cases hres
theorem mjs_math {idx : Nat} {b : Bool} (hd : decode cc pc = .ok (.invokestatic idx, 3)) (hb9 : b = true → Cond.methodLink own idx Lib.Math.max.name ∈ G ∧ Cond.static Lib.Math.max.name ∈ G ∧ Cond.code Lib.Math.max.name Lib.Math.max.code 2 (some .int) ∈ G) (hb8 : b = false → Cond.methodLink own idx Lib.Math.min.name ∈ G ∧ Cond.static Lib.Math.min.name ∈ G ∧ Cond.code Lib.Math.min.name Lib.Math.min.code 2 (some .int) ∈ G) (hw : Cond.initialized "java/lang/Math" ∈ G) :
    mjOk K l G M y own cc nL rt pc (mjmath (bif b then (fun x y => if x < y then y else x) else (fun x y => if y < x then y else x)) (pc + 3)) := by
  refine mjOk_same fun call F res hres => ?_
  obtain ⟨al, st, h⟩ := F
  unfold mjmath at hres
  dsimp only at hres
  split at hres
  · rename_i y9 x9 r
    cases hg : Nat.ble (r.map fun v => v.category).sum 8
    · rw [hg] at hres
      cases hres
    rw [hg] at hres
    cases hres
    have hg := Nat.le_of_ble_eq_true hg
    refine ⟨_, _, rfl, rfl, fun d p e R s m args below meth c cx Q cells slots H locs ls ad hW hF hS hcl hsl k => ?_⟩
    have hz := cx.2.2.2.2.2.2.2.2.1.cat
    obtain ⟨hx, hb, hml, hr, hts, hown, hlk, hnm, hen, hfr, hlo⟩ := cx
    have w9 : ∀ w ∈ G, w.before args s = true := fun w hw => hts w (List.mem_cons_of_mem _ hw)
    have k9 := k ls (mjFr_st hF (mjsc_i (mjsc_t (mjsc_t hF.2.1))))
    have hsz : c.maxLocals = ls.size := by rw [hml, hF.1.1]
    have hlo2 : ((r.map (mjrn (mkZ K) ad)).map fun v => v.category).sum + 13 ≤ R.locals := by
      rw [mjrn_sum hz]
      omega
    cases b
    · obtain ⟨a1, a2, a3⟩ := hb8 rfl
      exact va_mmin hx hb hsz hown (w9 _ a1) (w9 _ a2) (w9 _ hw) (w9 _ a3) (by omega) hlo2 hcl hsl hd k9
    · obtain ⟨a1, a2, a3⟩ := hb9 rfl
      exact va_mmax hx hb hsz hown (w9 _ a1) (w9 _ a2) (w9 _ hw) (w9 _ a3) (by omega) hlo2 hcl hsl hd k9
  · cases hres
theorem mjs_obj {idx : Nat} (hd : decode cc pc = .ok (.invokespecial idx, 3)) (hw1 : Cond.methodLink own idx Lib.objectInit ∈ G) (hw2 : Cond.instanceMethod Lib.objectInit ∈ G) (hw3 : Cond.code Lib.objectInit ⟨#[0xb1]⟩ 1 none ∈ G) : mjOk K l G M y own cc nL rt pc (mjobj (pc + 3)) := by
  refine mjOk_same fun call F res hres => ?_
  obtain ⟨al, st, h⟩ := F
  unfold mjobj at hres
  dsimp only at hres
  split at hres
  · rename_i q r
    cases hg : Nat.ble (r.map fun v => v.category).sum 8
    · rw [hg] at hres
      cases hres
    rw [hg] at hres
    cases hres
    have hg := Nat.le_of_ble_eq_true hg
    refine ⟨_, _, rfl, rfl, fun d p e R s m args below meth c cx Q cells slots H locs ls ad hW hF hS hcl hsl k => ?_⟩
    have hz := cx.2.2.2.2.2.2.2.2.1.cat
    obtain ⟨hx, hb, hml, hr, hts, hown, hlk, hnm, hen, hfr, hlo⟩ := cx
    have w9 : ∀ w ∈ G, w.before args s = true := fun w hw => hts w (List.mem_cons_of_mem _ hw)
    have k9 := k ls (mjFr_st hF (mjsc_t hF.2.1))
    refine W.objInit hx hb hown (w9 _ hw1) (w9 _ hw2) (w9 _ hw3) rfl (by rw [hml]; exact hF.1.1) rfl hd (by omega) ?_ (W.eq rfl k9)
    have e1 : ((r.map (mjrn (mkZ K) ad)).map fun v => v.category).sum ≤ 8 := by
      rw [mjrn_sum hz]
      exact hg
    have e2 := lv_room (m := m) (pc := pc) (ls := ls) (rest := .ref (ad q) :: r.map (mjrn (mkZ K) ad)) e1
    show 2 * (F0 m pc ls (.ref (ad q) :: r.map (mjrn (mkZ K) ad))).monitorRoom + _ + 12 ≤ R.locals
    omega
  · cases hres
theorem mjs_copy {idx : Nat} (hd : decode cc pc = .ok (.invokestatic idx, 3)) (hw1 : Cond.methodLink own idx arraycopyName ∈ G) (hw2 : Cond.native arraycopyName ∈ G) (hw3 : Cond.static arraycopyName ∈ G) (hw4 : Cond.initialized "java/lang/System" ∈ G) : mjOk K l G M y own cc nL rt pc (mjcopy (pc + 3)) := by
  intro d call hcall F res hres
  obtain ⟨al, st, h⟩ := F
  unfold mjcopy at hres
  dsimp only at hres
  split at hres
  · rename_i n dp k1 sp k0 r
    cases hg : ((((Nat.blt k0 (mjN h) && (mjT h k0).1 == 13) && (Nat.blt k1 (mjN h) && (mjT h k1).1 == 13)) && (((decide (0 ≤ sp) && decide (0 ≤ dp)) && decide (0 ≤ n)) && (Nat.ble (sp.toNatClampNeg + n.toNatClampNeg) (mjT h k0).2 && Nat.ble (dp.toNatClampNeg + n.toNatClampNeg) (mjT h k1).2))) && Nat.ble (r.map fun v => v.category).sum 8)
    · rw [hg] at hres
      cases hres
    rw [hg] at hres
    cases hres
    simp only [Bool.and_eq_true, decide_eq_true_eq, beq_iff_eq] at hg
    obtain ⟨⟨⟨⟨b1, b2⟩, b3, b4⟩, ⟨⟨b5, b6⟩, b7⟩, b8, b9⟩, b10⟩ := hg
    have b1 : k0 < mjN h := by simpa [Nat.blt_eq] using b1
    have b3 : k1 < mjN h := by simpa [Nat.blt_eq] using b3
    have b8 := Nat.le_of_ble_eq_true b8
    have b9 := Nat.le_of_ble_eq_true b9
    have b10 := Nat.le_of_ble_eq_true b10
    refine ⟨⟨Nat.le_refl _, Nat.le_refl _, Nat.le_refl _⟩, ?_⟩
    intro p e R s m args below meth c cx Q c0 s0 cells slots H locs ls ad hW hF hS h1 h2 h3 h4 kn kr
    have hz := cx.2.2.2.2.2.2.2.2.1.cat
    obtain ⟨hx, hb, hml, hr, hts, hown, hlk, hnm, hen, hfr, hlo⟩ := cx
    have w9 : ∀ w ∈ G, w.before args s = true := fun w hw => hts w (List.mem_cons_of_mem _ hw)
    have hat0 := (mjw_at (K := K) (ad := ad) b1).trans (by rw [mjcel_i b2])
    have hat1 := (mjw_at (K := K) (ad := ad) b3).trans (by rw [mjcel_i b4])
    have hnw : nativeFrameWords "java/lang/System" "arraycopy" 5 ≤ 100 := by decide +kernel
    have hlo2 : ((r.map (mjrn (mkZ K) ad)).map fun v => v.category).sum + (nativeFrameWords "java/lang/System" "arraycopy" 5 + 11) ≤ R.locals := by
      rw [mjrn_sum hz]
      omega
    refine va_copyi (D := K.1) hx hb (by rw [hml, hF.1.1]) hown (w9 _ hw1) (w9 _ hw2) (w9 _ hw3) (w9 _ hw4) hen.1 hW.1 hW.2.1 hS k0 k1 0 0 hat0 hat1 rfl rfl rfl (Int32.not_lt.mpr b5) (Int32.not_lt.mpr b6) (Int32.not_lt.mpr b7) b8 b9 (fun _ _ => rfl) (by omega) hlo2 hd (fun H1 locs1 hP1 hD1 hS1 => ?_)
    refine kn _ _ rfl ad H1 locs1 ls cells slots mjExt.rf (mjWd_set (h' := mjsR h k1 _) hW rfl ?_ mjsR_o hW.2.2.1 ⟨mjR_ne (hW.far b3), rfl⟩ hP1 hD1) ⟨hF.1, mjsc_t (mjsc_t (mjsc_t (mjsc_t (mjsc_t hF.2.1)))), hF.2.2⟩ hS1 h1 h2
    rw [mjcel_i (show (mjT (mjsR h k1 _) k1).1 = 13 from b4), show mjI (mjsR h k1 _) k1 = _ from mjR_eq]
    rfl
  · cases hres
end MJ4
