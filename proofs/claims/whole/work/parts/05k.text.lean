/-! texts and the script -/
section MJ8
variable {K : MK} {l : Launch} {G : List Cond} {M : MT} {y : MethodName} {own : String} {cc : ByteArray} {nL : Nat} {rt : Option FieldType} {pc : Nat}
theorem mjtx {k b : Nat} (h : (Nat.ble b k && Nat.blt k (b + 5)) = true) : ∃ i, i < 5 ∧ k = b + i := by
  rw [Bool.and_eq_true] at h
  have h1 := Nat.le_of_ble_eq_true h.1
  have h2 : k < b + 5 := by simpa [Nat.blt_eq] using h.2
  exact ⟨k - b, by omega, by omega⟩
theorem mjs_ldcS {i idx : Nat} (hd : decode cc pc = .ok (.ldc_w idx, 3)) (hi : i < 5) (hown9 : own = "LookAtClock") (hidx : (mjtexts.getD i (0, "", [])).1 = idx) : mjOk K l G M y own cc nL rt pc (mjpush (.ref (1000000 + i)) (pc + 3)) := by
  refine mjOk_same fun call F res hres => ?_
  obtain ⟨al, st, h⟩ := F
  cases hres
  refine ⟨_, _, rfl, rfl, fun d p e R s m args below meth c cx Q cells slots H locs ls ad hW hF hS hcl hsl k => ?_⟩
  obtain ⟨hx, hb, hml, hr, hts, hown, hlk, hnm, hen, -⟩ := cx
  have k9 := k ls (mjFr_st hF (mjsc_c (x := .ref (1000000 + i)) (Or.inr (Nat.le_add_right _ _)) hF.2.1))
  have hR := hen.2.2.2.2.2.1.2.1 i hi
  rw [hidx] at hR
  subst hown9
  have e1 : mjrn (mkZ K) ad (.ref (1000000 + i)) = .ref (mkS K (1000000 + i)) := congrArg Value.ref (hW.2.2.2.2.1 _ (Nat.le_add_right _ _))
  rw [List.map_cons, e1] at k9
  intro T hT X
  obtain ⟨t, a1, b1⟩ := k9 T hT X
  exact ⟨t, X.ldcStringW hx hown hR.1 hR.2 (g := F0 m pc ls (st.map (mjrn (mkZ K) ad))) rfl (by rw [hb]; exact hd) t a1, b1⟩
theorem mjs_tv {idx : Nat} (hd : decode cc pc = .ok (.getfield idx, 3)) (hw : Cond.fieldLink own idx "java/lang/String" "value" "[B" ∈ G) : mjOk K l G M y own cc nL rt pc (mjtv (pc + 3)) := by
  refine mjOk_same fun call F res hres => ?_
  obtain ⟨al, st, h⟩ := F
  unfold mjtv at hres
  dsimp only at hres
  split at hres
  · rename_i q r
    cases hg : (Nat.ble 1000000 q && Nat.blt q 1000005)
    · rw [hg] at hres
      cases hres
    rw [hg] at hres
    cases hres
    obtain ⟨i, hi, rfl⟩ := mjtx hg
    refine ⟨_, _, rfl, rfl, fun d p e R s m args below meth c cx Q cells slots H locs ls ad hW hF hS hcl hsl k => ?_⟩
    obtain ⟨hx, hb, hml, hr, hts, hown, hlk, hnm, hen, -⟩ := cx
    have k9 := k ls (mjFr_st hF (mjsc_c (x := .ref (1000000 + i + 100000)) (Or.inr (show 1000000 ≤ 1000000 + i + 100000 by omega)) (mjsc_t hF.2.1)))
    have hE := (hen.2.2.2.2.2.1.1.1 i hi).2.2.1
    have e0 : ad (1000000 + i) = mkS K (1000000 + i) := hW.2.2.2.2.1 _ (Nat.le_add_right _ _)
    have e1 : ad (1000000 + i + 100000) = mkS K (1100000 + i) := by
      rw [show 1000000 + i + 100000 = 1100000 + i by omega]
      exact hW.2.2.2.2.1 _ (by omega)
    show W p l e R s m args below meth c H locs cells slots Q (F0 m pc ls (.ref (ad (1000000 + i)) :: r.map (mjrn (mkZ K) ad)))
    have k9 : W p l e R s m args below meth c H locs cells slots Q (F0 m (pc + 3) ls (.ref (ad (1000000 + i + 100000)) :: r.map (mjrn (mkZ K) ad))) := k9
    rw [e1] at k9
    rw [e0]
    exact vk_getf hx hb hE hS hown (hts _ (List.mem_cons_of_mem _ hw)) (fun _ h9 => h9) hd k9
  · cases hres
theorem mjs_tc {idx : Nat} (hd : decode cc pc = .ok (.getfield idx, 3)) (hw : Cond.fieldLink own idx "java/lang/String" "coder" "B" ∈ G) : mjOk K l G M y own cc nL rt pc (mjtc (pc + 3)) := by
  refine mjOk_same fun call F res hres => ?_
  obtain ⟨al, st, h⟩ := F
  unfold mjtc at hres
  dsimp only at hres
  split at hres
  · rename_i q r
    cases hg : (Nat.ble 1000000 q && Nat.blt q 1000005)
    · rw [hg] at hres
      cases hres
    rw [hg] at hres
    cases hres
    obtain ⟨i, hi, rfl⟩ := mjtx hg
    refine ⟨_, _, rfl, rfl, fun d p e R s m args below meth c cx Q cells slots H locs ls ad hW hF hS hcl hsl k => ?_⟩
    obtain ⟨hx, hb, hml, hr, hts, hown, hlk, hnm, hen, -⟩ := cx
    have k9 := k ls (mjFr_st hF (mjsc_i (mjsc_t hF.2.1)))
    have hE := (hen.2.2.2.2.2.1.1.1 i hi).2.1
    have e0 : ad (1000000 + i) = mkS K (1000000 + i) := hW.2.2.2.2.1 _ (Nat.le_add_right _ _)
    show W p l e R s m args below meth c H locs cells slots Q (F0 m pc ls (.ref (ad (1000000 + i)) :: r.map (mjrn (mkZ K) ad)))
    rw [e0]
    exact vk_getf hx hb hE hS hown (hts _ (List.mem_cons_of_mem _ hw)) (fun _ h9 => h9) hd k9
  · cases hres
theorem mjs_tlen (hd : decode cc pc = .ok (.arraylength, 1)) : mjOk K l G M y own cc nL rt pc (mjtlen (pc + 1)) := by
  refine mjOk_same fun call F res hres => ?_
  obtain ⟨al, st, h⟩ := F
  unfold mjtlen at hres
  dsimp only at hres
  split at hres
  · rename_i q r
    cases hg : (Nat.ble 1100000 q && Nat.blt q 1100005)
    · rw [hg] at hres
      cases hres
    rw [hg] at hres
    cases hres
    obtain ⟨i, hi, rfl⟩ := mjtx hg
    refine ⟨_, _, rfl, rfl, fun d p e R s m args below meth c cx Q cells slots H locs ls ad hW hF hS hcl hsl k => ?_⟩
    obtain ⟨hx, hb, hml, hr, hts, hown, hlk, hnm, hen, -⟩ := cx
    have k9 := k ls (mjFr_st hF (mjsc_i (mjsc_t hF.2.1)))
    have hE := (hen.2.2.2.2.2.1.1.1 i hi).2.2.2
    have e0 : ad (1100000 + i) = mkS K (1100000 + i) := hW.2.2.2.2.1 _ (by omega)
    show W p l e R s m args below meth c H locs cells slots Q (F0 m pc ls (.ref (ad (1100000 + i)) :: r.map (mjrn (mkZ K) ad)))
    rw [e0]
    have e3 : 1100000 + i - 1100000 = i := by omega
    rw [e3] at k9
    exact va_tlen hx hb hE hS rfl hd k9
  · cases hres
theorem mjs_tald (hd : decode cc pc = .ok (.baload, 1)) : mjOk K l G M y own cc nL rt pc (mjtald (pc + 1)) := by
  refine mjOk_same fun call F res hres => ?_
  obtain ⟨al, st, h⟩ := F
  unfold mjtald at hres
  dsimp only at hres
  split at hres
  · rename_i j q r
    cases hg : ((Nat.ble 1100000 q && Nat.blt q 1100005) && mjin j (mjlens.getD (q - 1100000) 0))
    · rw [hg] at hres
      cases hres
    rw [hg] at hres
    cases hres
    rw [Bool.and_eq_true] at hg
    obtain ⟨i, hi, rfl⟩ := mjtx hg.1
    refine ⟨_, _, rfl, rfl, fun d p e R s m args below meth c cx Q cells slots H locs ls ad hW hF hS hcl hsl k => ?_⟩
    obtain ⟨hx, hb, hml, hr, hts, hown, hlk, hnm, hen, -⟩ := cx
    have k9 := k ls (mjFr_st hF (mjsc_i (mjsc_t (mjsc_t hF.2.1))))
    have hE := (hen.2.2.2.2.2.1.1.1 i hi).2.2.2
    have e0 : ad (1100000 + i) = mkS K (1100000 + i) := hW.2.2.2.2.1 _ (by omega)
    have e3 : 1100000 + i - 1100000 = i := by omega
    rw [e3] at k9 hg
    have hin : vp_in j (mjlens.getD i 0) := by
      have h2 := hg.2
      simp only [mjin, Bool.and_eq_true, decide_eq_true_eq] at h2
      rintro (z | z)
      · exact absurd h2.1 (Int32.not_le.mpr z)
      · omega
    show W p l e R s m args below meth c H locs cells slots Q (F0 m pc ls (.int j :: .ref (ad (1100000 + i)) :: r.map (mjrn (mkZ K) ad)))
    rw [e0]
    exact va_tb hx hb hE hS hin rfl hd k9
  · cases hres
theorem mjs_gets1 {idx : Nat} (hd : decode cc pc = .ok (.getstatic idx, 3)) (hw : Cond.fieldLink own idx "java/lang/String" "COMPACT_STRINGS" "Z" ∈ G) : mjOk K l G M y own cc nL rt pc (mjpush (.int 1) (pc + 3)) := by
  refine mjOk_same fun call F res hres => ?_
  obtain ⟨al, st, h⟩ := F
  cases hres
  refine ⟨_, _, rfl, rfl, fun d p e R s m args below meth c cx Q cells slots H locs ls ad hW hF hS hcl hsl k => ?_⟩
  obtain ⟨hx, hb, hml, hr, hts, hown, hlk, hnm, hen, -⟩ := cx
  exact va_gets hx hb hen.2.2.2.2.2.1.2.2.1 hS hown (hts _ (List.mem_cons_of_mem _ hw)) (fun _ h9 => h9) hd (k ls (mjFr_st hF (mjsc_i hF.2.1)))
theorem mjs_getsF {idx : Nat} (hd : decode cc pc = .ok (.getstatic idx, 3)) (hw : Cond.fieldLink own idx "jdk/internal/util/Preconditions" "SIOOBE_FORMATTER" "Ljava/util/function/BiFunction;" ∈ G) : mjOk K l G M y own cc nL rt pc (mjpush (.retAddr 0) (pc + 3)) := by
  refine mjOk_same fun call F res hres => ?_
  obtain ⟨al, st, h⟩ := F
  cases hres
  refine ⟨_, _, rfl, rfl, fun d p e R s m args below meth c cx Q cells slots H locs ls ad hW hF hS hcl hsl k => ?_⟩
  obtain ⟨hx, hb, hml, hr, hts, hown, hlk, hnm, hen, -⟩ := cx
  exact va_gets hx hb hen.2.2.2.2.2.1.2.2.2.1 hS hown (hts _ (List.mem_cons_of_mem _ hw)) (fun _ h9 => h9) hd (k ls (mjFr_st hF (mjsc_c trivial hF.2.1)))
theorem mjs_sld (hd : decode cc pc = .ok (.iaload, 1)) : mjOk K l G M y own cc nL rt pc (mjsld (pc + 1)) := by
  refine mjOk_same fun call F res hres => ?_
  obtain ⟨al, st, h⟩ := F
  unfold mjsld at hres
  dsimp only at hres
  split at hres
  · rename_i j q r
    cases hg : (Nat.beq q 2000000 && mjin j (mjT h q).2)
    · rw [hg] at hres
      cases hres
    rw [hg] at hres
    cases hres
    rw [Bool.and_eq_true] at hg
    have e9 := Nat.eq_of_beq_eq_true hg.1
    subst e9
    refine ⟨_, _, rfl, rfl, fun d p e R s m args below meth c cx Q cells slots H locs ls ad hW hF hS hcl hsl k => ?_⟩
    obtain ⟨hx, hb, hml, hr, hts, hown, hlk, hnm, hen, -⟩ := cx
    have k9 := k ls (mjFr_st hF (mjsc_i (mjsc_t (mjsc_t hF.2.1))))
    have e0 : ad 2000000 = mkS K 2000000 := hW.2.2.2.2.1 _ (by omega)
    have hin : vp_in j K.2.2.2.2.2.1 := by
      have h2 := hg.2
      rw [hW.2.2.2.2.2.2] at h2
      simp only [mjin, Bool.and_eq_true, decide_eq_true_eq] at h2
      rintro (z | z)
      · exact absurd h2.1 (Int32.not_le.mpr z)
      · omega
    rw [hW.2.2.2.2.2.1] at k9
    show W p l e R s m args below meth c H locs cells slots Q (F0 m pc ls (.int j :: .ref (ad 2000000) :: r.map (mjrn (mkZ K) ad)))
    rw [e0]
    exact va_sld hx hb hen.2.2.2.2.2.2.1 hen.2.2.2.2.2.2.2.1 hen.2.2.2.2.2.2.2.2 hS hin hd k9
  · cases hres
theorem mjs_slen (hd : decode cc pc = .ok (.arraylength, 1)) : mjOk K l G M y own cc nL rt pc (mjslen (pc + 1)) := by
  refine mjOk_same fun call F res hres => ?_
  obtain ⟨al, st, h⟩ := F
  unfold mjslen at hres
  dsimp only at hres
  split at hres
  · rename_i q r
    cases hg : Nat.beq q 2000000
    · rw [hg] at hres
      cases hres
    rw [hg] at hres
    cases hres
    have e9 := Nat.eq_of_beq_eq_true hg
    subst e9
    refine ⟨_, _, rfl, rfl, fun d p e R s m args below meth c cx Q cells slots H locs ls ad hW hF hS hcl hsl k => ?_⟩
    obtain ⟨hx, hb, hml, hr, hts, hown, hlk, hnm, hen, -⟩ := cx
    have k9 := k ls (mjFr_st hF (mjsc_i (mjsc_t hF.2.1)))
    have e0 : ad 2000000 = mkS K 2000000 := hW.2.2.2.2.1 _ (by omega)
    rw [hW.2.2.2.2.2.2] at k9
    show W p l e R s m args below meth c H locs cells slots Q (F0 m pc ls (.ref (ad 2000000) :: r.map (mjrn (mkZ K) ad)))
    rw [e0]
    exact va_slen hx hb hen.2.2.2.2.2.2.1 hen.2.2.2.2.2.2.2.1 hen.2.2.2.2.2.2.2.2 hS hd k9
  · cases hres
theorem mjs_bret (hr : rt = some .byte) (hd : decode cc pc = .ok (.ireturn, 1)) : mjOk K l G M y own cc nL rt pc mjbret := by
  refine mjOk_ret hd fun call F res hres => ?_
  obtain ⟨al, st, h⟩ := F
  unfold mjbret at hres
  dsimp only at hres
  split at hres
  · rename_i x
    cases hg : decide (x.toInt8.toInt32 = x)
    · rw [hg] at hres
      cases hres
    rw [hg] at hres
    cases hres
    exact ⟨_, rfl, rfl, Or.inl ⟨.byte, x, hr, by simp only [decide_eq_true_eq] at hg; show Value.int _ = _; exact congrArg Value.int hg, rfl, rfl⟩⟩
  · cases hres
theorem mjs_textcall {j n idx : Nat} {y' : MethodName} {cc' : ByteArray} {nL' : Nat} {rt' : Option FieldType} (hG : ∀ w ∈ G, goodWord w = true) (hd : decode cc pc = .ok (.invokevirtual idx, 3)) (hM : mjtb G M j (n + 1) y' cc' nL' rt') (hdd : y'.cls = "java/lang/String" ∧ y'.cls ≠ "java/lang/invoke/MethodHandle" ∧ y'.cls ≠ "java/lang/invoke/VarHandle" ∧ (parseMethodDescriptor y'.desc).map (fun d => d.parameters.length) = some n)
    (w1 : Cond.methodLink own idx y' ∈ G) (w2 : Cond.instanceMethod y' ∈ G) (w3 : Cond.selects "java/lang/String" y' y' ∈ G) (w4 : Cond.initialized "java/lang/String" ∈ G) : mjOk K l G M y own cc nL rt pc (mjcallT j (n + 1) (pc + 3)) := by
  intro d call hcall F res hres
  obtain ⟨al, st, h⟩ := F
  unfold mjcallT at hres
  dsimp only at hres
  cases hg : mjg (n + 1) st
  · rw [hg] at hres
    cases hres
  rw [hg] at hres
  dsimp only [cond_true] at hres
  split at hres
  · rename_i q as hk
    cases hq : (Nat.ble 1000000 q && Nat.blt q 1000005)
    · rw [hq] at hres
      cases hres
    rw [hq] at hres
    dsimp only [cond_true] at hres
    obtain ⟨i, hi, rfl⟩ := mjtx hq
    have hlen : (st.take (n + 1)).reverse.length = n + 1 := by simp [(mjg_at hg).1]
    obtain ⟨k1, k2⟩ := mj_call (pc := pc) (y := y) (own := own) (cc := cc) (nL := nL) (rt := rt) hcall hM hg hres (by
      intro d' mc ms o h' p e R s m args below meth c H locs cells slots ls ad hd9 cx hW hS hsz hcs hsum hct hrm
      obtain ⟨hx, hb, hml, hr, hts, hown, hlk, hnm, hen, -⟩ := cx
      rw [hk] at hct hlen ⊢
      rw [mj_splitR hk]
      have e0 : ad (1000000 + i) = mkS K (1000000 + i) := hW.2.2.2.2.1 _ (Nat.le_add_right _ _)
      have hrec := vk_recv hen.2.2.2.2.2.1.1 hi hS
      rw [← e0] at hrec
      refine va_runV (C := "java/lang/String") (As := as.map (mjrn (mkZ K) ad)) ⟨hx, hb, hml, hown, hts⟩ hct (cwV n hts (mj_gi hG (fun w hw => ?_)) rfl rfl rfl hdd hrm) ⟨mjPm_blind, hrec, mjPm_at hen hS hW⟩ rfl (by rw [List.length_map]; rw [List.length_cons] at hlen; omega) hsz rfl (lv_room hsum) hd hcs
      simp only [wsV, List.mem_append, List.mem_cons, List.not_mem_nil, or_false] at hw
      rcases hw with (rfl | rfl | rfl | rfl) | rfl | hw
      · exact w1
      · exact w2
      · exact w3
      · exact w4
      · exact hM.2.1
      · exact hw)
    exact ⟨k1, fun p e R s m args below meth c cx Q c0 s0 cells slots H locs ls ad hW hF hS h1 h2 h3 h4 kn kr => k2 p e R s m args below meth c cx Q c0 s0 cells slots H locs ls ad hW hF hS h1 h2 h3 h4 kn⟩
  · cases hres
end MJ8
