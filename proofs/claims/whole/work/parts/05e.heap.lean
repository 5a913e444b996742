/-! operations on the cells: lemmas -/
def mjty (c : Nat) : Nat → FieldType := match c with
  | 0 => tyX0 | 1 => tyX1 | 2 => tyX2 | 3 => tyX3 | 4 => tyX4 | 5 => tyX5 | 6 => tyX6 | 7 => tyX7 | 8 => tyX8 | 9 => tyX9 | 10 => tyX10 | 11 => tyX11
  | _ => tyX12
theorem mjty_ok : ∀ (c : Nat) (q : vw_C), vwCl[c]? = some q → (∀ k, k < q.2.2 → parseFieldDescriptor (q.2.1 k).2.2.1 = some (mjty c k)) ∧ (∀ a, a < q.2.2 → ∀ b, b < q.2.2 → a ≠ b → (q.2.1 a).2.1 ≠ (q.2.1 b).2.1)
  | 0, q, h => by cases h; exact ⟨tyX0_ok, nmX0⟩
  | 1, q, h => by cases h; exact ⟨tyX1_ok, nmX1⟩
  | 2, q, h => by cases h; exact ⟨tyX2_ok, nmX2⟩
  | 3, q, h => by cases h; exact ⟨tyX3_ok, nmX3⟩
  | 4, q, h => by cases h; exact ⟨tyX4_ok, nmX4⟩
  | 5, q, h => by cases h; exact ⟨tyX5_ok, nmX5⟩
  | 6, q, h => by cases h; exact ⟨tyX6_ok, nmX6⟩
  | 7, q, h => by cases h; exact ⟨tyX7_ok, nmX7⟩
  | 8, q, h => by cases h; exact ⟨tyX8_ok, nmX8⟩
  | 9, q, h => by cases h; exact ⟨tyX9_ok, nmX9⟩
  | 10, q, h => by cases h; exact ⟨tyX10_ok, nmX10⟩
  | 11, q, h => by cases h; exact ⟨tyX11_ok, nmX11⟩
  | 12, q, h => by cases h; exact ⟨tyX12_ok, nmX12⟩
  | n + 13, q, h => by simp [vwCl] at h
theorem mjcl_lt {c : Nat} {q : vw_C} (h : vwCl[c]? = some q) : c < 13 := by
  have h1 := (List.getElem?_eq_some_iff.mp h).1
  have h2 : vwCl.length = 13 := rfl
  omega
theorem mjcel_obj {K : MK} {ad : Nat → Nat} {h : MH} {k : Nat} {q : vw_C} (hc : vwCl[(mjT h k).1]? = some q) : mjcel K ad h k = .inr ((mjT h k).1, mjov ad h k q) := by
  have := mjcl_lt hc
  unfold mjcel
  rw [if_neg (by omega), if_neg (by omega), if_neg (by omega), if_neg (by omega), hc]
theorem mjcel_i {K : MK} {ad : Nat → Nat} {h : MH} {k : Nat} (hc : (mjT h k).1 = 13) : mjcel K ad h k = .inl (K.2.1.1, (mjT h k).2, .inl (mjI h k)) := by
  unfold mjcel
  rw [if_pos hc]
theorem mjcel_q {K : MK} {ad : Nat → Nat} {h : MH} {k : Nat} (hc : (mjT h k).1 = 14) : mjcel K ad h k = .inl (K.2.1.2.1, (mjT h k).2, .inr (.inr (.inr (.inr (fun j => (mjP h k j).map ad))))) := by
  unfold mjcel
  rw [if_neg (by omega), if_pos hc]
theorem mjcel_r {K : MK} {ad : Nat → Nat} {h : MH} {k : Nat} (hc : (mjT h k).1 = 15) : mjcel K ad h k = .inl (K.2.1.2.2.1, (mjT h k).2, .inr (.inr (.inr (.inr (fun j => (mjP h k j).map ad))))) := by
  unfold mjcel
  rw [if_neg (by omega), if_neg (by omega), if_pos hc]
theorem mjcel_l {K : MK} {ad : Nat → Nat} {h : MH} {k : Nat} (hc : (mjT h k).1 = 16) : mjcel K ad h k = .inl (K.2.1.2.2.2, (mjT h k).2, .inr (.inl (mjL h k))) := by
  unfold mjcel
  rw [if_neg (by omega), if_neg (by omega), if_neg (by omega), if_pos hc]
theorem mjov_get {ad : Nat → Nat} {h : MH} {k j : Nat} {q : vw_C} (hj : j < q.2.2) : (mjov ad h k q)[j]? = some (mjfv ad h k q.2.1 j) := by
  simp [mjov, hj]
theorem mjov_len {ad : Nat → Nat} {h : MH} {k : Nat} {q : vw_C} : (mjov ad h k q).length = q.2.2 := by simp [mjov]
theorem mjov_set {ad : Nat → Nat} {h h' : MH} {k j : Nat} {q : vw_C} {v : Value} (hj : j < q.2.2) (h1 : mjfv ad h' k q.2.1 j = v) (h2 : ∀ i, i ≠ j → mjfv ad h' k q.2.1 i = mjfv ad h k q.2.1 i) : mjov ad h' k q = (mjov ad h k q).set j v := by
  apply List.ext_getElem?
  intro i
  by_cases e : j = i
  · subst e
    rw [List.getElem?_set_self (by rw [mjov_len]; exact hj), mjov_get hj, h1]
  · rw [List.getElem?_set_ne e]
    by_cases hi : i < q.2.2
    · rw [mjov_get hi, mjov_get hi, h2 i (Ne.symm e)]
    · rw [List.getElem?_eq_none (by rw [mjov_len]; omega), List.getElem?_eq_none (by rw [mjov_len]; omega)]
theorem mjcel_congr {K : MK} {ad ad' : Nat → Nat} {h h' : MH} {k : Nat} (e1 : mjI h' k = mjI h k) (e2 : ∀ j, (mjP h' k j).map ad' = (mjP h k j).map ad) (e3 : mjL h' k = mjL h k) (e4 : mjT h' k = mjT h k) : mjcel K ad' h' k = mjcel K ad h k := by
  have e5 : ∀ T : u_T, mjfv ad' h' k T = mjfv ad h k T := fun T => by
    funext j
    simp only [mjfv, e1, e2]
  have e6 : ∀ q : vw_C, mjov ad' h' k q = mjov ad h k q := fun q => by
    unfold mjov
    rw [e5]
  unfold mjcel
  rw [e4, e1, e3]
  have e7 : (fun j => (mjP h' k j).map ad') = (fun j => (mjP h k j).map ad) := funext e2
  rw [e7]
  cases hq : vwCl[(mjT h k).1]? with
  | none => rfl
  | some q => simp only [e6]
theorem mjw_set {K : MK} {ad : Nat → Nat} {h h' : MH} {k : Nat} (hN : mjN h' = mjN h) (ho : ∀ k', k' ≠ k → mjcel K ad h' k' = mjcel K ad h k') : mjw K ad h' = (mjw K ad h).set k (ad k, mjcel K ad h' k) := by
  apply List.ext_getElem?
  intro i
  by_cases hi : i < mjN h
  · rw [mjw_at (by rw [hN]; exact hi)]
    by_cases e : k = i
    · subst e
      rw [List.getElem?_set_self (by rw [mjw_len]; exact hi)]
    · rw [List.getElem?_set_ne e, mjw_at hi, ho i (Ne.symm e)]
  · rw [mjw_no (by rw [hN]; exact hi), List.getElem?_eq_none (by rw [List.length_set, mjw_len]; omega)]
theorem mjWd_set {K : MK} {ad : Nat → Nat} {h h' : MH} {k : Nat} {H H1 : Heap} {e : va_E} (hW : mjWd K ad h H) (hN : mjN h' = mjN h) (he : mjcel K ad h' k = e) (ho : ∀ k', k' ≠ k → mjcel K ad h' k' = mjcel K ad h k')
    (hsc : ∀ k j n : Nat, mjP h' k j = some n → n < mjN h' ∨ 1000000 ≤ n) (hx : mjI h' 2000000 = mjI h 2000000 ∧ mjT h' 2000000 = mjT h 2000000) (hP : va_P K.1 vwCl ((mjw K ad h).set k (ad k, e)) H1) (hD : va_D (mkA K) ((mjw K ad h).set k (ad k, e))) : mjWd K ad h' H1 := by
  subst he
  rw [← mjw_set hN ho] at hP hD
  exact ⟨hP, hD, hsc, by rw [hN]; exact hW.2.2.2.1, hW.2.2.2.2.1, hx.1.trans hW.2.2.2.2.2.1, by rw [hx.2]; exact hW.2.2.2.2.2.2⟩
theorem mjWd.far {K : MK} {ad : Nat → Nat} {h : MH} {H : Heap} (hW : mjWd K ad h H) {k : Nat} (hk : k < mjN h) : (2000000 : Nat) ≠ k := by
  have := hW.2.2.2.1
  omega
theorem mjU_ne {α : Type} {f : Nat → Nat → α} {k j a : Nat} {v : α} (h : a ≠ k) : mjU f k j v a = f a := by
  funext b
  unfold mjU
  rw [if_neg h]
theorem mjU_eq {α : Type} {f : Nat → Nat → α} {k j : Nat} {v : α} : mjU f k j v k j = v := by simp [mjU]
theorem mjU_ne2 {α : Type} {f : Nat → Nat → α} {k j b : Nat} {v : α} (h : b ≠ j) : mjU f k j v k b = f k b := by simp [mjU, h]
theorem mjR_ne {α : Type} {f : Nat → Nat → α} {k a : Nat} {v : Nat → α} (h : a ≠ k) : mjR f k v a = f a := by
  funext b
  unfold mjR
  rw [if_neg h]
theorem mjR_eq {α : Type} {f : Nat → Nat → α} {k : Nat} {v : Nat → α} : mjR f k v k = v := by
  funext b
  simp [mjR]
theorem mjsI_o {K : MK} {ad : Nat → Nat} {h : MH} {k j : Nat} {v : Int32} : ∀ k', k' ≠ k → mjcel K ad (mjsI h k j v) k' = mjcel K ad h k' := fun k' hk => mjcel_congr (mjU_ne hk) (fun _ => rfl) rfl rfl
theorem mjsP_o {K : MK} {ad : Nat → Nat} {h : MH} {k j : Nat} {v : Option Nat} : ∀ k', k' ≠ k → mjcel K ad (mjsP h k j v) k' = mjcel K ad h k' := fun k' hk => mjcel_congr rfl (fun i => by rw [show mjP (mjsP h k j v) k' = mjP h k' from mjU_ne hk]) rfl rfl
theorem mjsL_o {K : MK} {ad : Nat → Nat} {h : MH} {k j : Nat} {v : Int64} : ∀ k', k' ≠ k → mjcel K ad (mjsL h k j v) k' = mjcel K ad h k' := fun k' hk => mjcel_congr rfl (fun _ => rfl) (mjU_ne hk) rfl
theorem mjsR_o {K : MK} {ad : Nat → Nat} {h : MH} {k : Nat} {v : Nat → Int32} : ∀ k', k' ≠ k → mjcel K ad (mjsR h k v) k' = mjcel K ad h k' := fun k' hk => mjcel_congr (mjR_ne hk) (fun _ => rfl) rfl rfl
/-- a field of the classes cs: its place, whether it is a reference, where it is declared -/
def mjfok (cs : List Nat) (j : Nat) (isr : Bool) (dcl name desc : String) : Bool := cs.all (fun c => match vwCl[c]? with
  | some q => decide (j < q.2.2) && ((mjrf (q.2.1 j).2.2.1 == isr) && ((q.2.1 j).1 == dcl && ((q.2.1 j).2.1 == name && (q.2.1 j).2.2.1 == desc)))
  | none => false)
theorem mjfok_at {cs : List Nat} {j : Nat} {isr : Bool} {dcl name desc : String} (h : mjfok cs j isr dcl name desc = true) {c : Nat} (hc : cs.contains c = true) : ∃ q : vw_C, vwCl[c]? = some q ∧ j < q.2.2 ∧ mjrf (q.2.1 j).2.2.1 = isr ∧ (q.2.1 j).1 = dcl ∧ (q.2.1 j).2.1 = name ∧ (q.2.1 j).2.2.1 = desc := by
  have h1 := List.all_eq_true.mp h c (by simpa using hc)
  split at h1
  · rename_i q hq
    simp only [Bool.and_eq_true, decide_eq_true_eq, beq_iff_eq] at h1
    exact ⟨q, hq, h1.1, h1.2.1, h1.2.2.1, h1.2.2.2.1, h1.2.2.2.2⟩
  · cases h1
section MJ2
variable {K : MK} {l : Launch} {G : List Cond} {M : MT} {y : MethodName} {own : String} {cc : ByteArray} {nL : Nat} {rt : Option FieldType} {pc : Nat}
variable {d : Nat} {p : Program} {e : Env} {R : Room} {s : State} {m : MethodId} {args : Array Value} {below : List Frame} {meth : Method} {c : Code} {Q : State → Prop} {cells slots : Nat} {H : Heap} {locs : List Loc} {ls : Array Slot} {ad : Nat → Nat} {h : MH} {rest : List Value}
/-- the words hold the layouts of all classes -/
def mjLay (G : List Cond) : Prop := ∀ (c : Nat) (q : vw_C), vwCl[c]? = some q → ∀ w ∈ u_ws q.1 q.2.1 q.2.2, w ∈ G
theorem mjget (hL : mjLay G) {cs : List Nat} {j idx : Nat} {isr : Bool} {ref dcl name desc : String} (hd : decode cc pc = .ok (.getfield idx, 3)) (hf : mjfok cs j isr dcl name desc = true) (hw : Cond.fieldLink own idx ref name desc ∈ G) (hsm : ref = dcl ∨ Cond.sameField ref dcl name desc ∈ G)
    (cx : mjCx K G y own cc nL rt d p R s m args meth c) (hW : mjWd K ad h H) {k : Nat} (hk : k < mjN h) (hc : cs.contains (mjT h k).1 = true)
    (kk : W p l e R s m args below meth c H locs cells slots Q (F0 m (pc + 3) ls ((bif isr then va_rf ((mjP h k j).map ad) else .int (mjI h k j)) :: rest))) : W p l e R s m args below meth c H locs cells slots Q (F0 m pc ls (.ref (ad k) :: rest)) := by
  obtain ⟨⟨C, T, N⟩, q1, q2, q3, q4, q5, q6⟩ := mjfok_at hf hc
  obtain ⟨hx, hb, hml, hr, hts, hown, hlk, hnm, hen, -⟩ := cx
  dsimp only at q2 q3 q4 q5 q6
  refine va_get (D := K.1) (ci := (mjT h k).1) hx hb hts (fun w hw => List.mem_cons_of_mem _ (hL _ _ q1 w hw)) hown hen.1 hW.1 k (mjw_at hk |>.trans (by rw [mjcel_obj q1])) q1 j q2 (by rw [q5, q6]; exact hts _ (List.mem_cons_of_mem _ hw)) ?_ (mjov_get q2) hd ?_
  · intro x hx9
    rcases hsm with e | e
    · rw [e, ← q4]
      exact hx9
    · rw [q4, q5, q6] at hx9
      rw [q5, q6]
      exact u_same (hts _ (List.mem_cons_of_mem _ e)) x hx9
  · show W p l e R s m args below meth c H locs cells slots Q (F0 m (pc + 3) ls (mjfv ad h k T j :: rest))
    unfold mjfv
    rw [q3]
    exact kk
theorem mjput (hL : mjLay G) {cs : List Nat} {j idx : Nat} {isr : Bool} {ref dcl name desc : String} (hd : decode cc pc = .ok (.putfield idx, 3)) (hf : mjfok cs j isr dcl name desc = true) (hw : Cond.fieldLink own idx ref name desc ∈ G) (hsm : ref = dcl)
    (hfin : (∀ c ∈ cs, ∀ q, vwCl[c]? = some q → (q.2.1 j).2.2.2 = false) ∨ ((∀ c ∈ cs, ∀ q, vwCl[c]? = some q → (q.2.1 j).2.2.2 = true) ∧ y.name = "<init>" ∧ dcl = own))
    {ty : FieldType} {v : Value} (hty : parseFieldDescriptor desc = some ty) (hn : narrow ty v = v) (hfit : fits ty v = true)
    (cx : mjCx K G y own cc nL rt d p R s m args meth c) (hW : mjWd K ad h H) (hS : va_S (mkA K) s.heap H locs) {k : Nat} (hk : k < mjN h) (hc : cs.contains (mjT h k).1 = true) {h' : MH} (hN : mjN h' = mjN h)
    (he : ∀ T : u_T, mjrf (T j).2.2.1 = isr → mjfv ad h' k T j = v) (he2 : ∀ (T : u_T) (i : Nat), i ≠ j → mjfv ad h' k T i = mjfv ad h k T i) (ho : ∀ k', k' ≠ k → mjcel K ad h' k' = mjcel K ad h k') (hT : mjT h' k = mjT h k) (hsc : ∀ k j n : Nat, mjP h' k j = some n → n < mjN h' ∨ 1000000 ≤ n) (hx9 : mjI h' 2000000 = mjI h 2000000 ∧ mjT h' 2000000 = mjT h 2000000)
    (kk : ∀ (H1 : Heap) (locs1 : List Loc), mjWd K ad h' H1 → va_S (mkA K) s.heap H1 locs1 → W p l e R s m args below meth c H1 locs1 cells slots Q (F0 m (pc + 3) ls rest)) : W p l e R s m args below meth c H locs cells slots Q (F0 m pc ls (v :: .ref (ad k) :: rest)) := by
  obtain ⟨⟨C, T, N⟩, q1, q2, q3, q4, q5, q6⟩ := mjfok_at hf hc
  obtain ⟨hx, hb, hml, hr, hts, hown, hlk, hnm, hen, -⟩ := cx
  dsimp only at q2 q3 q4 q5 q6
  subst hsm
  have hcm : (mjT h k).1 ∈ cs := by simpa using hc
  have hin : ∀ w ∈ u_ws C T N, w ∈ (mjcw y cc nL rt :: G : List Cond) := fun w hw => List.mem_cons_of_mem _ (hL _ _ q1 w hw)
  have hlink : (Cond.fieldLink own idx ref (T j).2.1 (T j).2.2.1).before args s = true := by rw [q5, q6]; exact hts _ (List.mem_cons_of_mem _ hw)
  have hsame : ∀ x, s.fieldFound? (T j).1 (T j).2.1 (T j).2.2.1 = some x → s.fieldFound? ref (T j).2.1 (T j).2.2.1 = some x := fun x h9 => by rw [← q4]; exact h9
  have hat : (mjw K ad h)[k]? = some (ad k, .inr ((mjT h k).1, mjov ad h k (C, T, N))) := mjw_at hk |>.trans (by rw [mjcel_obj q1])
  have key : ∀ (H1 : Heap) (locs1 : List Loc), va_P K.1 vwCl ((mjw K ad h).set k (ad k, .inr ((mjT h k).1, (mjov ad h k (C, T, N)).set j v))) H1 → va_D (mkA K) ((mjw K ad h).set k (ad k, .inr ((mjT h k).1, (mjov ad h k (C, T, N)).set j v))) → va_S (mkA K) s.heap H1 locs1 → W p l e R s m args below meth c H1 locs1 cells slots Q (F0 m (pc + 3) ls rest) := by
    intro H1 locs1 hP1 hD1 hS1
    refine kk H1 locs1 (mjWd_set hW hN ?_ ho hsc hx9 hP1 hD1) hS1
    rw [mjcel_obj (q := (C, T, N)) (by rw [hT]; exact q1), hT, mjov_set (h := h) q2 (he T q3) (he2 T)]
  rcases hfin with f | ⟨f, hi, ho9⟩
  · exact va_put (D := K.1) (ci := (mjT h k).1) hx hb hts hin (mjty (mjT h k).1) (mjty_ok _ _ q1).1 (mjty_ok _ _ q1).2 hown hen.1 hW.1 hW.2.1 hS k hat q1 j q2 hlink hsame (f _ hcm _ q1) (by rw [q6]; exact hty) hn hfit (by rw [mjov_len]; exact q2) hd key
  · exact va_putF (D := K.1) (ci := (mjT h k).1) hx hb hts hin (mjty (mjT h k).1) (mjty_ok _ _ q1).1 (mjty_ok _ _ q1).2 hown hen.1 hW.1 hW.2.1 hS k hat q1 j q2 hlink hsame (f _ hcm _ q1) (hnm.trans hi) (q4.trans ho9) (by rw [q6]; exact hty) hn hfit (by rw [mjov_len]; exact q2) hd key
end MJ2
