/-! operations on the cells are sound -/
section MJ3
variable {K : MK} {l : Launch} {G : List Cond} {M : MT} {y : MethodName} {own : String} {cc : ByteArray} {nL : Nat} {rt : Option FieldType} {pc : Nat}
theorem mjgd {k : Nat} {cs : List Nat} {h : MH} (hg : (Nat.blt k (mjN h) && cs.contains (mjT h k).1) = true) : k < mjN h ∧ cs.contains (mjT h k).1 = true := by
  rw [Bool.and_eq_true] at hg
  exact ⟨by simpa [Nat.blt_eq] using hg.1, hg.2⟩
theorem mjga {k t : Nat} {i : Int32} {h : MH} (hg : ((Nat.blt k (mjN h) && (mjT h k).1 == t) && mjin i (mjT h k).2) = true) : k < mjN h ∧ (mjT h k).1 = t ∧ vp_in i (mjT h k).2 := by
  simp only [Bool.and_eq_true, mjin, decide_eq_true_eq, beq_iff_eq] at hg
  refine ⟨by simpa [Nat.blt_eq] using hg.1.1, hg.1.2, fun q => ?_⟩
  rcases q with q | q
  · exact absurd hg.2.1 (Int32.not_le.mpr q)
  · omega
theorem mjWd.scf {ad : Nat → Nat} {h : MH} {H : Heap} (hW : mjWd K ad h H) (k j : Nat) : mjsc (mjN h) (va_rf (mjP h k j)) := mjsc_rf (hW.2.2.1 k j)
theorem mjs_getI (hL : mjLay G) {cs : List Nat} {j idx : Nat} {ref dcl name desc : String} (hd : decode cc pc = .ok (.getfield idx, 3)) (hf : mjfok cs j false dcl name desc = true) (hw : Cond.fieldLink own idx ref name desc ∈ G) (hsm : ref = dcl ∨ Cond.sameField ref dcl name desc ∈ G) : mjOk K l G M y own cc nL rt pc (mjgetI cs j (pc + 3)) := by
  refine mjOk_same fun call F res hres => ?_
  obtain ⟨al, st, h⟩ := F
  unfold mjgetI at hres
  dsimp only at hres
  split at hres
  · rename_i k r
    cases hg : (Nat.blt k (mjN h) && cs.contains (mjT h k).1)
    · rw [hg] at hres
      cases hres
    rw [hg] at hres
    cases hres
    obtain ⟨g1, g2⟩ := mjgd hg
    refine ⟨_, _, rfl, rfl, fun d p e R s m args below meth c cx Q cells slots H locs ls ad hW hF hS hcl hsl k9 => ?_⟩
    have k8 := k9 ls (mjFr_st hF (mjsc_c trivial (mjsc_t hF.2.1)))
    refine mjget hL hd hf hw hsm cx hW g1 g2 ?_
    exact k8
  · cases hres
theorem mjs_getP (hL : mjLay G) {cs : List Nat} {j idx : Nat} {ref dcl name desc : String} (hd : decode cc pc = .ok (.getfield idx, 3)) (hf : mjfok cs j true dcl name desc = true) (hw : Cond.fieldLink own idx ref name desc ∈ G) (hsm : ref = dcl ∨ Cond.sameField ref dcl name desc ∈ G) : mjOk K l G M y own cc nL rt pc (mjgetP cs j (pc + 3)) := by
  refine mjOk_same fun call F res hres => ?_
  obtain ⟨al, st, h⟩ := F
  unfold mjgetP at hres
  dsimp only at hres
  split at hres
  · rename_i k r
    cases hg : (Nat.blt k (mjN h) && cs.contains (mjT h k).1)
    · rw [hg] at hres
      cases hres
    rw [hg] at hres
    cases hres
    obtain ⟨g1, g2⟩ := mjgd hg
    refine ⟨_, _, rfl, rfl, fun d p e R s m args below meth c cx Q cells slots H locs ls ad hW hF hS hcl hsl k9 => ?_⟩
    have k8 := k9 ls (mjFr_st hF (mjsc_c (hW.scf k j) (mjsc_t hF.2.1)))
    refine mjget hL hd hf hw hsm cx hW g1 g2 ?_
    rw [List.map_cons, mjrn_rf] at k8
    exact k8
  · cases hres
theorem mjs_putI (hL : mjLay G) {cs : List Nat} {j idx : Nat} {ref dcl name desc : String} (hd : decode cc pc = .ok (.putfield idx, 3)) (hf : mjfok cs j false dcl name desc = true) (hw : Cond.fieldLink own idx ref name desc ∈ G) (hsm : ref = dcl) (hty : parseFieldDescriptor desc = some .int)
    (hfin : (∀ c ∈ cs, ∀ q, vwCl[c]? = some q → (q.2.1 j).2.2.2 = false) ∨ ((∀ c ∈ cs, ∀ q, vwCl[c]? = some q → (q.2.1 j).2.2.2 = true) ∧ y.name = "<init>" ∧ dcl = own)) : mjOk K l G M y own cc nL rt pc (mjputI cs j (pc + 3)) := by
  intro d call hcall F res hres
  obtain ⟨al, st, h⟩ := F
  unfold mjputI at hres
  dsimp only at hres
  split at hres
  · rename_i x k r
    cases hg : (Nat.blt k (mjN h) && cs.contains (mjT h k).1)
    · rw [hg] at hres
      cases hres
    rw [hg] at hres
    cases hres
    obtain ⟨g1, g2⟩ := mjgd hg
    refine ⟨⟨Nat.le_refl _, Nat.le_refl _, Nat.le_refl _⟩, ?_⟩
    intro p e R s m args below meth c cx Q c0 s0 cells slots H locs ls ad hW hF hS h1 h2 h3 h4 kn kr
    refine mjput (h' := mjsI h k j x) hL hd hf hw hsm hfin hty (v := .int x) rfl rfl cx hW hS g1 g2 rfl ?_ ?_ mjsI_o rfl hW.2.2.1 ⟨mjU_ne (hW.far g1), rfl⟩ (fun H1 locs1 hW1 hS1 => ?_)
    · intro T hT
      unfold mjfv
      rw [hT]
      show Value.int (mjU h.1 k j x k j) = _
      rw [mjU_eq]
    · intro T i hi
      unfold mjfv
      rw [show mjI (mjsI h k j x) k i = mjI h k i from mjU_ne2 hi]
      rfl
    · exact kn _ _ rfl ad H1 locs1 ls cells slots mjExt.rf hW1 ⟨hF.1, mjsc_t (mjsc_t hF.2.1), hF.2.2⟩ hS1 h1 h2
  · cases hres
theorem mjs_putZ (hL : mjLay G) {cs : List Nat} {j idx : Nat} {ref dcl name desc : String} (hd : decode cc pc = .ok (.putfield idx, 3)) (hf : mjfok cs j false dcl name desc = true) (hw : Cond.fieldLink own idx ref name desc ∈ G) (hsm : ref = dcl) (hty : parseFieldDescriptor desc = some .boolean)
    (hfin : (∀ c ∈ cs, ∀ q, vwCl[c]? = some q → (q.2.1 j).2.2.2 = false) ∨ ((∀ c ∈ cs, ∀ q, vwCl[c]? = some q → (q.2.1 j).2.2.2 = true) ∧ y.name = "<init>" ∧ dcl = own)) : mjOk K l G M y own cc nL rt pc (mjputZ cs j (pc + 3)) := by
  intro d call hcall F res hres
  obtain ⟨al, st, h⟩ := F
  unfold mjputZ at hres
  dsimp only at hres
  split at hres
  · rename_i x k r
    cases hg : ((Nat.blt k (mjN h) && cs.contains (mjT h k).1) && (decide (x = 0) || decide (x = 1)))
    · rw [hg] at hres
      cases hres
    rw [hg] at hres
    cases hres
    rw [Bool.and_eq_true] at hg
    obtain ⟨hg, hz⟩ := hg
    obtain ⟨g1, g2⟩ := mjgd hg
    refine ⟨⟨Nat.le_refl _, Nat.le_refl _, Nat.le_refl _⟩, ?_⟩
    intro p e R s m args below meth c cx Q c0 s0 cells slots H locs ls ad hW hF hS h1 h2 h3 h4 kn kr
    refine mjput (h' := mjsI h k j x) hL hd hf hw hsm hfin hty (v := .int x) (by simp at hz; rcases hz with rfl | rfl <;> decide) (by simp at hz; rcases hz with rfl | rfl <;> decide) cx hW hS g1 g2 rfl ?_ ?_ mjsI_o rfl hW.2.2.1 ⟨mjU_ne (hW.far g1), rfl⟩ (fun H1 locs1 hW1 hS1 => ?_)
    · intro T hT
      unfold mjfv
      rw [hT]
      show Value.int (mjU h.1 k j x k j) = _
      rw [mjU_eq]
    · intro T i hi
      unfold mjfv
      rw [show mjI (mjsI h k j x) k i = mjI h k i from mjU_ne2 hi]
      rfl
    · exact kn _ _ rfl ad H1 locs1 ls cells slots mjExt.rf hW1 ⟨hF.1, mjsc_t (mjsc_t hF.2.1), hF.2.2⟩ hS1 h1 h2
  · cases hres
theorem mjs_putP (hL : mjLay G) {cs : List Nat} {j idx : Nat} {ref dcl name desc : String} (hd : decode cc pc = .ok (.putfield idx, 3)) (hf : mjfok cs j true dcl name desc = true) (hw : Cond.fieldLink own idx ref name desc ∈ G) (hsm : ref = dcl) (hty : ∃ ty, parseFieldDescriptor desc = some ty ∧ ((∃ n, ty = .object n) ∨ ∃ t, ty = .array t))
    (hfin : (∀ c ∈ cs, ∀ q, vwCl[c]? = some q → (q.2.1 j).2.2.2 = false) ∨ ((∀ c ∈ cs, ∀ q, vwCl[c]? = some q → (q.2.1 j).2.2.2 = true) ∧ y.name = "<init>" ∧ dcl = own)) : mjOk K l G M y own cc nL rt pc (mjputP cs j (pc + 3)) := by
  intro d call hcall F res hres
  obtain ⟨al, st, h⟩ := F
  unfold mjputP at hres
  dsimp only at hres
  split at hres
  · rename_i q k r
    cases hg : (Nat.blt k (mjN h) && cs.contains (mjT h k).1)
    · rw [hg] at hres
      cases hres
    rw [hg] at hres
    cases hres
    obtain ⟨g1, g2⟩ := mjgd hg
    refine ⟨⟨Nat.le_refl _, Nat.le_refl _, Nat.le_refl _⟩, ?_⟩
    intro p e R s m args below meth c cx Q c0 s0 cells slots H locs ls ad hW hF hS h1 h2 h3 h4 kn kr
    obtain ⟨ty, hty, hto⟩ := hty
    refine mjput (h' := mjsP h k j (some q)) hL hd hf hw hsm hfin hty (by rcases hto with ⟨n, rfl⟩ | ⟨n, rfl⟩ <;> rfl) (by rcases hto with ⟨n, rfl⟩ | ⟨n, rfl⟩ <;> rfl) cx hW hS g1 g2 rfl ?_ ?_ mjsP_o rfl ?_ ⟨rfl, rfl⟩ (fun H1 locs1 hW1 hS1 => ?_)
    · intro T hT
      unfold mjfv
      rw [hT]
      show va_rf ((mjU h.2.1 k j _ k j).map ad) = _
      rw [mjU_eq]
      rfl
    · intro T i hi
      unfold mjfv
      rw [show mjP (mjsP h k j (some q)) k i = mjP h k i from mjU_ne2 hi]
      rfl
    · intro a b n hn
      have hn : mjU h.2.1 k j _ a b = some n := hn
      unfold mjU at hn
      split at hn
      · split at hn
        · cases hn
          exact mjsc_h hF.2.1
        · exact hW.2.2.1 _ _ _ hn
      · exact hW.2.2.1 _ _ _ hn
    · exact kn _ _ rfl ad H1 locs1 ls cells slots mjExt.rf hW1 ⟨hF.1, mjsc_t (mjsc_t hF.2.1), hF.2.2⟩ hS1 h1 h2
  · rename_i k r
    cases hg : (Nat.blt k (mjN h) && cs.contains (mjT h k).1)
    · rw [hg] at hres
      cases hres
    rw [hg] at hres
    cases hres
    obtain ⟨g1, g2⟩ := mjgd hg
    refine ⟨⟨Nat.le_refl _, Nat.le_refl _, Nat.le_refl _⟩, ?_⟩
    intro p e R s m args below meth c cx Q c0 s0 cells slots H locs ls ad hW hF hS h1 h2 h3 h4 kn kr
    obtain ⟨ty, hty, hto⟩ := hty
    refine mjput (h' := mjsP h k j none) hL hd hf hw hsm hfin hty (by rcases hto with ⟨n, rfl⟩ | ⟨n, rfl⟩ <;> rfl) (by rcases hto with ⟨n, rfl⟩ | ⟨n, rfl⟩ <;> rfl) cx hW hS g1 g2 rfl ?_ ?_ mjsP_o rfl ?_ ⟨rfl, rfl⟩ (fun H1 locs1 hW1 hS1 => ?_)
    · intro T hT
      unfold mjfv
      rw [hT]
      show va_rf ((mjU h.2.1 k j _ k j).map ad) = _
      rw [mjU_eq]
      rfl
    · intro T i hi
      unfold mjfv
      rw [show mjP (mjsP h k j none) k i = mjP h k i from mjU_ne2 hi]
      rfl
    · intro a b n hn
      have hn : mjU h.2.1 k j _ a b = some n := hn
      unfold mjU at hn
      split at hn
      · split at hn
        · cases hn
        · exact hW.2.2.1 _ _ _ hn
      · exact hW.2.2.1 _ _ _ hn
    · exact kn _ _ rfl ad H1 locs1 ls cells slots mjExt.rf hW1 ⟨hF.1, mjsc_t (mjsc_t hF.2.1), hF.2.2⟩ hS1 h1 h2
  · cases hres
theorem mjs_iald (hd : decode cc pc = .ok (.iaload, 1)) : mjOk K l G M y own cc nL rt pc (mjiald (pc + 1)) := by
  intro d call hcall F res hres
  obtain ⟨al, st, h⟩ := F
  unfold mjiald at hres
  dsimp only at hres
  split at hres
  · rename_i i k r
    cases hg : ((Nat.blt k (mjN h) && (mjT h k).1 == 13) && mjin i (mjT h k).2)
    · rw [hg] at hres
      cases hres
    rw [hg] at hres
    cases hres
    obtain ⟨g1, g2, g3⟩ := mjga hg
    refine ⟨⟨Nat.le_refl _, Nat.le_refl _, Nat.le_refl _⟩, ?_⟩
    intro p e R s m args below meth c cx Q c0 s0 cells slots H locs ls ad hW hF hS h1 h2 h3 h4 kn kr
    obtain ⟨hx, hb, hml, hr, hts, hown, hlk, hnm, hen, -⟩ := cx
    have hat := (mjw_at (K := K) (ad := ad) g1).trans (by rw [mjcel_i g2])
    refine va_iald (D := K.1) hx hb hen.1 hW.1 k 0 hat rfl g3 hd ?_
    exact kn _ _ rfl ad H locs ls cells slots mjExt.rf hW (mjFr_st hF (mjsc_i (mjsc_t (mjsc_t hF.2.1)))) hS h1 h2
  · cases hres
theorem mjs_iast (hd : decode cc pc = .ok (.iastore, 1)) : mjOk K l G M y own cc nL rt pc (mjiast (pc + 1)) := by
  intro d call hcall F res hres
  obtain ⟨al, st, h⟩ := F
  unfold mjiast at hres
  dsimp only at hres
  split at hres
  · rename_i x i k r
    cases hg : ((Nat.blt k (mjN h) && (mjT h k).1 == 13) && mjin i (mjT h k).2)
    · rw [hg] at hres
      cases hres
    rw [hg] at hres
    cases hres
    obtain ⟨g1, g2, g3⟩ := mjga hg
    refine ⟨⟨Nat.le_refl _, Nat.le_refl _, Nat.le_refl _⟩, ?_⟩
    intro p e R s m args below meth c cx Q c0 s0 cells slots H locs ls ad hW hF hS h1 h2 h3 h4 kn kr
    obtain ⟨hx, hb, hml, hr, hts, hown, hlk, hnm, hen, -⟩ := cx
    have hat := (mjw_at (K := K) (ad := ad) g1).trans (by rw [mjcel_i g2])
    refine va_iast (D := K.1) hx hb hen.1 hW.1 hW.2.1 hS k 0 hat rfl g3 hd (fun H1 locs1 hP1 hD1 hS1 => ?_)
    refine kn _ _ rfl ad H1 locs1 ls cells slots mjExt.rf (mjWd_set (h' := mjsI h k i.toNatClampNeg x) hW rfl ?_ mjsI_o hW.2.2.1 ⟨mjU_ne (hW.far g1), rfl⟩ hP1 hD1) ⟨hF.1, mjsc_t (mjsc_t (mjsc_t hF.2.1)), hF.2.2⟩ hS1 h1 h2
    rw [mjcel_i (show (mjT (mjsI h k i.toNatClampNeg x) k).1 = 13 from g2)]
    have e1 : mjI (mjsI h k i.toNatClampNeg x) k = upd (mjI h k) i.toNatClampNeg x := by
      funext b
      show mjU h.1 k i.toNatClampNeg x k b = _
      simp [mjU, upd, mjI]
    rw [e1]
    rfl
  · cases hres
theorem mjs_lald (hd : decode cc pc = .ok (.laload, 1)) : mjOk K l G M y own cc nL rt pc (mjlald (pc + 1)) := by
  intro d call hcall F res hres
  obtain ⟨al, st, h⟩ := F
  unfold mjlald at hres
  dsimp only at hres
  split at hres
  · rename_i i k r
    cases hg : ((Nat.blt k (mjN h) && (mjT h k).1 == 16) && mjin i (mjT h k).2)
    · rw [hg] at hres
      cases hres
    rw [hg] at hres
    cases hres
    obtain ⟨g1, g2, g3⟩ := mjga hg
    refine ⟨⟨Nat.le_refl _, Nat.le_refl _, Nat.le_refl _⟩, ?_⟩
    intro p e R s m args below meth c cx Q c0 s0 cells slots H locs ls ad hW hF hS h1 h2 h3 h4 kn kr
    obtain ⟨hx, hb, hml, hr, hts, hown, hlk, hnm, hen, -⟩ := cx
    have hat := (mjw_at (K := K) (ad := ad) g1).trans (by rw [mjcel_l g2])
    refine va_lald (D := K.1) hx hb hen.1 hW.1 k 3 hat rfl g3 hd ?_
    exact kn _ _ rfl ad H locs ls cells slots mjExt.rf hW (mjFr_st hF (mjsc_l (mjsc_t (mjsc_t hF.2.1)))) hS h1 h2
  · cases hres
theorem mjs_last (hd : decode cc pc = .ok (.lastore, 1)) : mjOk K l G M y own cc nL rt pc (mjlast (pc + 1)) := by
  intro d call hcall F res hres
  obtain ⟨al, st, h⟩ := F
  unfold mjlast at hres
  dsimp only at hres
  split at hres
  · rename_i x i k r
    cases hg : ((Nat.blt k (mjN h) && (mjT h k).1 == 16) && mjin i (mjT h k).2)
    · rw [hg] at hres
      cases hres
    rw [hg] at hres
    cases hres
    obtain ⟨g1, g2, g3⟩ := mjga hg
    refine ⟨⟨Nat.le_refl _, Nat.le_refl _, Nat.le_refl _⟩, ?_⟩
    intro p e R s m args below meth c cx Q c0 s0 cells slots H locs ls ad hW hF hS h1 h2 h3 h4 kn kr
    obtain ⟨hx, hb, hml, hr, hts, hown, hlk, hnm, hen, -⟩ := cx
    have hat := (mjw_at (K := K) (ad := ad) g1).trans (by rw [mjcel_l g2])
    refine va_last (D := K.1) hx hb hen.1 hW.1 hW.2.1 hS k 3 hat rfl g3 hd (fun H1 locs1 hP1 hD1 hS1 => ?_)
    refine kn _ _ rfl ad H1 locs1 ls cells slots mjExt.rf (mjWd_set (h' := mjsL h k i.toNatClampNeg x) hW rfl ?_ mjsL_o hW.2.2.1 ⟨rfl, rfl⟩ hP1 hD1) ⟨hF.1, mjsc_t (mjsc_t (mjsc_t hF.2.1)), hF.2.2⟩ hS1 h1 h2
    rw [mjcel_l (show (mjT (mjsL h k i.toNatClampNeg x) k).1 = 16 from g2)]
    have e1 : mjL (mjsL h k i.toNatClampNeg x) k = vp_updL (mjL h k) i.toNatClampNeg x := by
      funext b
      show mjU h.2.2.1 k i.toNatClampNeg x k b = _
      simp [mjU, vp_updL, mjL]
    rw [e1]
    rfl
  · cases hres
theorem mjs_aald14 (hd : decode cc pc = .ok (.aaload, 1)) : mjOk K l G M y own cc nL rt pc (mjaald 14 (pc + 1)) := by
  intro d call hcall F res hres
  obtain ⟨al, st, h⟩ := F
  unfold mjaald at hres
  dsimp only at hres
  split at hres
  · rename_i i k r
    cases hg : ((Nat.blt k (mjN h) && (mjT h k).1 == 14) && mjin i (mjT h k).2)
    · rw [hg] at hres
      cases hres
    rw [hg] at hres
    cases hres
    obtain ⟨g1, g2, g3⟩ := mjga hg
    refine ⟨⟨Nat.le_refl _, Nat.le_refl _, Nat.le_refl _⟩, ?_⟩
    intro p e R s m args below meth c cx Q c0 s0 cells slots H locs ls ad hW hF hS h1 h2 h3 h4 kn kr
    obtain ⟨hx, hb, hml, hr, hts, hown, hlk, hnm, hen, -⟩ := cx
    have hat := (mjw_at (K := K) (ad := ad) g1).trans (by rw [mjcel_q g2])
    refine va_aldq (D := K.1) hx hb hen.1 hW.1 k 1 hat rfl g3 hd ?_
    have k9 := kn _ _ rfl ad H locs ls cells slots mjExt.rf hW (mjFr_st hF (mjsc_c (hW.scf k i.toNatClampNeg) (mjsc_t (mjsc_t hF.2.1)))) hS h1 h2
    rw [List.map_cons, mjrn_rf] at k9
    exact k9
  · cases hres
theorem mjs_aald15 (hd : decode cc pc = .ok (.aaload, 1)) : mjOk K l G M y own cc nL rt pc (mjaald 15 (pc + 1)) := by
  intro d call hcall F res hres
  obtain ⟨al, st, h⟩ := F
  unfold mjaald at hres
  dsimp only at hres
  split at hres
  · rename_i i k r
    cases hg : ((Nat.blt k (mjN h) && (mjT h k).1 == 15) && mjin i (mjT h k).2)
    · rw [hg] at hres
      cases hres
    rw [hg] at hres
    cases hres
    obtain ⟨g1, g2, g3⟩ := mjga hg
    refine ⟨⟨Nat.le_refl _, Nat.le_refl _, Nat.le_refl _⟩, ?_⟩
    intro p e R s m args below meth c cx Q c0 s0 cells slots H locs ls ad hW hF hS h1 h2 h3 h4 kn kr
    obtain ⟨hx, hb, hml, hr, hts, hown, hlk, hnm, hen, -⟩ := cx
    have hat := (mjw_at (K := K) (ad := ad) g1).trans (by rw [mjcel_r g2])
    refine va_aldq (D := K.1) hx hb hen.1 hW.1 k 2 hat rfl g3 hd ?_
    have k9 := kn _ _ rfl ad H locs ls cells slots mjExt.rf hW (mjFr_st hF (mjsc_c (hW.scf k i.toNatClampNeg) (mjsc_t (mjsc_t hF.2.1)))) hS h1 h2
    rw [List.map_cons, mjrn_rf] at k9
    exact k9
  · cases hres
theorem mjs_aast14 {cs : List Nat} (hcs : ∀ c ∈ cs, ∃ q, vwCl[c]? = some q ∧ (q.1 ∈ mjsubs)) (hd : decode cc pc = .ok (.aastore, 1)) : mjOk K l G M y own cc nL rt pc (mjaast 14 cs (pc + 1)) := by
  intro d call hcall F res hres
  obtain ⟨al, st, h⟩ := F
  unfold mjaast at hres
  dsimp only at hres
  split at hres
  · rename_i q i k r
    cases hg : (((Nat.blt k (mjN h) && (mjT h k).1 == 14) && mjin i (mjT h k).2) && (Nat.blt q (mjN h) && cs.contains (mjT h q).1))
    · rw [hg] at hres
      cases hres
    rw [hg] at hres
    cases hres
    rw [Bool.and_eq_true] at hg
    obtain ⟨hg, hg2⟩ := hg
    obtain ⟨g4, g5⟩ := mjgd hg2
    obtain ⟨cq, hcq, hsub⟩ := hcs _ (by simpa using g5)
    obtain ⟨g1, g2, g3⟩ := mjga hg
    refine ⟨⟨Nat.le_refl _, Nat.le_refl _, Nat.le_refl _⟩, ?_⟩
    intro p e R s m args below meth c cx Q c0 s0 cells slots H locs ls ad hW hF hS h1 h2 h3 h4 kn kr
    obtain ⟨hx, hb, hml, hr, hts, hown, hlk, hnm, hen, -⟩ := cx
    have hat := (mjw_at (K := K) (ad := ad) g1).trans (by rw [mjcel_q g2])
    have key : ∀ (H1 : Heap) (locs1 : List Loc), va_P K.1 vwCl ((mjw K ad h).set k (ad k, .inl (K.2.1.2.1, (mjT h k).2, .inr (.inr (.inr (.inr (va_up (fun j => (mjP h k j).map ad) i.toNatClampNeg (some (ad q))))))))) H1 → va_D (mkA K) ((mjw K ad h).set k (ad k, .inl (K.2.1.2.1, (mjT h k).2, .inr (.inr (.inr (.inr (va_up (fun j => (mjP h k j).map ad) i.toNatClampNeg (some (ad q))))))))) → va_S (mkA K) s.heap H1 locs1 → W p l e R s m args below meth c H1 locs1 cells slots Q (F0 m (pc + 1) ls (r.map (mjrn (mkZ K) ad))) := by
      intro H1 locs1 hP1 hD1 hS1
      refine kn _ _ rfl ad H1 locs1 ls cells slots mjExt.rf (mjWd_set (h' := mjsP h k i.toNatClampNeg (some q)) hW rfl ?_ mjsP_o ?_ ⟨rfl, rfl⟩ hP1 hD1) ⟨hF.1, mjsc_t (mjsc_t (mjsc_t hF.2.1)), hF.2.2⟩ hS1 h1 h2
      · rw [mjcel_q (show (mjT (mjsP h k i.toNatClampNeg (some q)) k).1 = 14 from g2)]
        have e1 : (fun j => (mjP (mjsP h k i.toNatClampNeg (some q)) k j).map ad) = va_up (fun j => (mjP h k j).map ad) i.toNatClampNeg (some (ad q)) := by
          funext b
          show (mjU h.2.1 k i.toNatClampNeg _ k b).map ad = _
          by_cases hb9 : b = i.toNatClampNeg
          · subst hb9
            rw [mjU_eq, va_up_self]
            rfl
          · rw [mjU_ne2 hb9, va_up_ne _ _ hb9]
            rfl
        rw [e1]
        rfl
      · intro a b n hn
        have hn : mjU h.2.1 k i.toNatClampNeg _ a b = some n := hn
        unfold mjU at hn
        split at hn
        · split at hn
          · cases hn
            exact mjsc_h hF.2.1
          · exact hW.2.2.1 _ _ _ hn
        · exact hW.2.2.1 _ _ _ hn
    have hq := (mjw_at (K := K) (ad := ad) g4).trans (by rw [mjcel_obj hcq])
    exact va_astqM (D := K.1) hx hb hen.1 hW.1 hW.2.1 hS k 1 hat rfl (va_rAny hen.1 hW.1 hq hcq (vb_asgC (hen.2.2.2.1 _ hsub))) g3 hd key
  · rename_i i k r
    cases hg : (((Nat.blt k (mjN h) && (mjT h k).1 == 14) && mjin i (mjT h k).2))
    · rw [hg] at hres
      cases hres
    rw [hg] at hres
    cases hres
    obtain ⟨g1, g2, g3⟩ := mjga hg
    refine ⟨⟨Nat.le_refl _, Nat.le_refl _, Nat.le_refl _⟩, ?_⟩
    intro p e R s m args below meth c cx Q c0 s0 cells slots H locs ls ad hW hF hS h1 h2 h3 h4 kn kr
    obtain ⟨hx, hb, hml, hr, hts, hown, hlk, hnm, hen, -⟩ := cx
    have hat := (mjw_at (K := K) (ad := ad) g1).trans (by rw [mjcel_q g2])
    have key : ∀ (H1 : Heap) (locs1 : List Loc), va_P K.1 vwCl ((mjw K ad h).set k (ad k, .inl (K.2.1.2.1, (mjT h k).2, .inr (.inr (.inr (.inr (va_up (fun j => (mjP h k j).map ad) i.toNatClampNeg (none)))))))) H1 → va_D (mkA K) ((mjw K ad h).set k (ad k, .inl (K.2.1.2.1, (mjT h k).2, .inr (.inr (.inr (.inr (va_up (fun j => (mjP h k j).map ad) i.toNatClampNeg (none)))))))) → va_S (mkA K) s.heap H1 locs1 → W p l e R s m args below meth c H1 locs1 cells slots Q (F0 m (pc + 1) ls (r.map (mjrn (mkZ K) ad))) := by
      intro H1 locs1 hP1 hD1 hS1
      refine kn _ _ rfl ad H1 locs1 ls cells slots mjExt.rf (mjWd_set (h' := mjsP h k i.toNatClampNeg (none)) hW rfl ?_ mjsP_o ?_ ⟨rfl, rfl⟩ hP1 hD1) ⟨hF.1, mjsc_t (mjsc_t (mjsc_t hF.2.1)), hF.2.2⟩ hS1 h1 h2
      · rw [mjcel_q (show (mjT (mjsP h k i.toNatClampNeg (none)) k).1 = 14 from g2)]
        have e1 : (fun j => (mjP (mjsP h k i.toNatClampNeg (none)) k j).map ad) = va_up (fun j => (mjP h k j).map ad) i.toNatClampNeg (none) := by
          funext b
          show (mjU h.2.1 k i.toNatClampNeg _ k b).map ad = _
          by_cases hb9 : b = i.toNatClampNeg
          · subst hb9
            rw [mjU_eq, va_up_self]
            rfl
          · rw [mjU_ne2 hb9, va_up_ne _ _ hb9]
            rfl
        rw [e1]
        rfl
      · intro a b n hn
        have hn : mjU h.2.1 k i.toNatClampNeg _ a b = some n := hn
        unfold mjU at hn
        split at hn
        · split at hn
          · cases hn
          · exact hW.2.2.1 _ _ _ hn
        · exact hW.2.2.1 _ _ _ hn
    exact va_astqN (D := K.1) hx hb hen.1 hW.1 hW.2.1 hS k 1 hat rfl g3 hd key
  · cases hres
theorem mjs_aast15 {cs : List Nat} (hcs : ∀ c ∈ cs, ∃ q, vwCl[c]? = some q ∧ (q.1 = "LookAtClock$Row")) (hd : decode cc pc = .ok (.aastore, 1)) : mjOk K l G M y own cc nL rt pc (mjaast 15 cs (pc + 1)) := by
  intro d call hcall F res hres
  obtain ⟨al, st, h⟩ := F
  unfold mjaast at hres
  dsimp only at hres
  split at hres
  · rename_i q i k r
    cases hg : (((Nat.blt k (mjN h) && (mjT h k).1 == 15) && mjin i (mjT h k).2) && (Nat.blt q (mjN h) && cs.contains (mjT h q).1))
    · rw [hg] at hres
      cases hres
    rw [hg] at hres
    cases hres
    rw [Bool.and_eq_true] at hg
    obtain ⟨hg, hg2⟩ := hg
    obtain ⟨g4, g5⟩ := mjgd hg2
    obtain ⟨cq, hcq, hsub⟩ := hcs _ (by simpa using g5)
    obtain ⟨g1, g2, g3⟩ := mjga hg
    refine ⟨⟨Nat.le_refl _, Nat.le_refl _, Nat.le_refl _⟩, ?_⟩
    intro p e R s m args below meth c cx Q c0 s0 cells slots H locs ls ad hW hF hS h1 h2 h3 h4 kn kr
    obtain ⟨hx, hb, hml, hr, hts, hown, hlk, hnm, hen, -⟩ := cx
    have hat := (mjw_at (K := K) (ad := ad) g1).trans (by rw [mjcel_r g2])
    have key : ∀ (H1 : Heap) (locs1 : List Loc), va_P K.1 vwCl ((mjw K ad h).set k (ad k, .inl (K.2.1.2.2.1, (mjT h k).2, .inr (.inr (.inr (.inr (va_up (fun j => (mjP h k j).map ad) i.toNatClampNeg (some (ad q))))))))) H1 → va_D (mkA K) ((mjw K ad h).set k (ad k, .inl (K.2.1.2.2.1, (mjT h k).2, .inr (.inr (.inr (.inr (va_up (fun j => (mjP h k j).map ad) i.toNatClampNeg (some (ad q))))))))) → va_S (mkA K) s.heap H1 locs1 → W p l e R s m args below meth c H1 locs1 cells slots Q (F0 m (pc + 1) ls (r.map (mjrn (mkZ K) ad))) := by
      intro H1 locs1 hP1 hD1 hS1
      refine kn _ _ rfl ad H1 locs1 ls cells slots mjExt.rf (mjWd_set (h' := mjsP h k i.toNatClampNeg (some q)) hW rfl ?_ mjsP_o ?_ ⟨rfl, rfl⟩ hP1 hD1) ⟨hF.1, mjsc_t (mjsc_t (mjsc_t hF.2.1)), hF.2.2⟩ hS1 h1 h2
      · rw [mjcel_r (show (mjT (mjsP h k i.toNatClampNeg (some q)) k).1 = 15 from g2)]
        have e1 : (fun j => (mjP (mjsP h k i.toNatClampNeg (some q)) k j).map ad) = va_up (fun j => (mjP h k j).map ad) i.toNatClampNeg (some (ad q)) := by
          funext b
          show (mjU h.2.1 k i.toNatClampNeg _ k b).map ad = _
          by_cases hb9 : b = i.toNatClampNeg
          · subst hb9
            rw [mjU_eq, va_up_self]
            rfl
          · rw [mjU_ne2 hb9, va_up_ne _ _ hb9]
            rfl
        rw [e1]
        rfl
      · intro a b n hn
        have hn : mjU h.2.1 k i.toNatClampNeg _ a b = some n := hn
        unfold mjU at hn
        split at hn
        · split at hn
          · cases hn
            exact mjsc_h hF.2.1
          · exact hW.2.2.1 _ _ _ hn
        · exact hW.2.2.1 _ _ _ hn
    have hq := (mjw_at (K := K) (ad := ad) g4).trans (by rw [mjcel_obj hcq])
    exact va_astq (D := K.1) hx hb hen.1 hW.1 hW.2.1 hS k 2 q (mjT h q).1 hat (by rw [hsub]; rfl) hq hcq g3 hd key
  · rename_i i k r
    cases hg : (((Nat.blt k (mjN h) && (mjT h k).1 == 15) && mjin i (mjT h k).2))
    · rw [hg] at hres
      cases hres
    rw [hg] at hres
    cases hres
    obtain ⟨g1, g2, g3⟩ := mjga hg
    refine ⟨⟨Nat.le_refl _, Nat.le_refl _, Nat.le_refl _⟩, ?_⟩
    intro p e R s m args below meth c cx Q c0 s0 cells slots H locs ls ad hW hF hS h1 h2 h3 h4 kn kr
    obtain ⟨hx, hb, hml, hr, hts, hown, hlk, hnm, hen, -⟩ := cx
    have hat := (mjw_at (K := K) (ad := ad) g1).trans (by rw [mjcel_r g2])
    have key : ∀ (H1 : Heap) (locs1 : List Loc), va_P K.1 vwCl ((mjw K ad h).set k (ad k, .inl (K.2.1.2.2.1, (mjT h k).2, .inr (.inr (.inr (.inr (va_up (fun j => (mjP h k j).map ad) i.toNatClampNeg (none)))))))) H1 → va_D (mkA K) ((mjw K ad h).set k (ad k, .inl (K.2.1.2.2.1, (mjT h k).2, .inr (.inr (.inr (.inr (va_up (fun j => (mjP h k j).map ad) i.toNatClampNeg (none)))))))) → va_S (mkA K) s.heap H1 locs1 → W p l e R s m args below meth c H1 locs1 cells slots Q (F0 m (pc + 1) ls (r.map (mjrn (mkZ K) ad))) := by
      intro H1 locs1 hP1 hD1 hS1
      refine kn _ _ rfl ad H1 locs1 ls cells slots mjExt.rf (mjWd_set (h' := mjsP h k i.toNatClampNeg (none)) hW rfl ?_ mjsP_o ?_ ⟨rfl, rfl⟩ hP1 hD1) ⟨hF.1, mjsc_t (mjsc_t (mjsc_t hF.2.1)), hF.2.2⟩ hS1 h1 h2
      · rw [mjcel_r (show (mjT (mjsP h k i.toNatClampNeg (none)) k).1 = 15 from g2)]
        have e1 : (fun j => (mjP (mjsP h k i.toNatClampNeg (none)) k j).map ad) = va_up (fun j => (mjP h k j).map ad) i.toNatClampNeg (none) := by
          funext b
          show (mjU h.2.1 k i.toNatClampNeg _ k b).map ad = _
          by_cases hb9 : b = i.toNatClampNeg
          · subst hb9
            rw [mjU_eq, va_up_self]
            rfl
          · rw [mjU_ne2 hb9, va_up_ne _ _ hb9]
            rfl
        rw [e1]
        rfl
      · intro a b n hn
        have hn : mjU h.2.1 k i.toNatClampNeg _ a b = some n := hn
        unfold mjU at hn
        split at hn
        · split at hn
          · cases hn
          · exact hW.2.2.1 _ _ _ hn
        · exact hW.2.2.1 _ _ _ hn
    exact va_astqN (D := K.1) hx hb hen.1 hW.1 hW.2.1 hS k 2 hat rfl g3 hd key
  · cases hres
theorem mjs_alen (hd : decode cc pc = .ok (.arraylength, 1)) : mjOk K l G M y own cc nL rt pc (mjalen (pc + 1)) := by
  intro d call hcall F res hres
  obtain ⟨al, st, h⟩ := F
  unfold mjalen at hres
  dsimp only at hres
  split at hres
  · rename_i k r
    cases hg : (Nat.blt k (mjN h) && Nat.ble 13 (mjT h k).1)
    · rw [hg] at hres
      cases hres
    rw [hg] at hres
    cases hres
    rw [Bool.and_eq_true] at hg
    have g1 : k < mjN h := by simpa [Nat.blt_eq] using hg.1
    have g2 : 13 ≤ (mjT h k).1 := Nat.le_of_ble_eq_true hg.2
    refine ⟨⟨Nat.le_refl _, Nat.le_refl _, Nat.le_refl _⟩, ?_⟩
    intro p e R s m args below meth c cx Q c0 s0 cells slots H locs ls ad hW hF hS h1 h2 h3 h4 kn kr
    obtain ⟨hx, hb, hml, hr, hts, hown, hlk, hnm, hen, -⟩ := cx
    have k9 := kn _ _ rfl ad H locs ls cells slots mjExt.rf hW (mjFr_st hF (mjsc_i (mjsc_t hF.2.1))) hS h1 h2
    by_cases e3 : (mjT h k).1 = 13
    · have hat := (mjw_at (K := K) (ad := ad) g1).trans (by rw [mjcel_i e3])
      exact va_alen (D := K.1) hx hb hen.1 hW.1 k 0 hat rfl rfl hd k9
    by_cases e4 : (mjT h k).1 = 14
    · have hat := (mjw_at (K := K) (ad := ad) g1).trans (by rw [mjcel_q e4])
      exact va_alen (D := K.1) hx hb hen.1 hW.1 k 1 hat rfl rfl hd k9
    by_cases e5 : (mjT h k).1 = 15
    · have hat := (mjw_at (K := K) (ad := ad) g1).trans (by rw [mjcel_r e5])
      exact va_alen (D := K.1) hx hb hen.1 hW.1 k 2 hat rfl rfl hd k9
    by_cases e6 : (mjT h k).1 = 16
    · have hat := (mjw_at (K := K) (ad := ad) g1).trans (by rw [mjcel_l e6])
      exact va_alen (D := K.1) hx hb hen.1 hW.1 k 3 hat rfl rfl hd k9
    exfalso
    have e7 : vwCl[(mjT h k).1]? = none := List.getElem?_eq_none (by show 13 ≤ _; exact g2)
    have e8 : mjcel K ad h k = .inr ((mjT h k).1, []) := by
      unfold mjcel
      rw [if_neg e3, if_neg e4, if_neg e5, if_neg e6, e7]
    obtain ⟨r9, hr9, -⟩ := hW.1 k _ ((mjw_at (K := K) (ad := ad) g1).trans (by rw [e8]))
    rw [e7] at hr9
    cases hr9
  · cases hres
end MJ3
