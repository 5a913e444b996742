/-! element: it returns or throws -/
theorem mjGoL.callL {PL : Nat → MOp} (hm : ∀ pc, mjMn (PL pc)) {d pc nx n a : Nat} {L : List (Nat × Nat)} {al : List (Option Value)} {st as : List Value} {h h' : MH} {o : Option Value} {r : MO × MH → Prop} (hp : PL pc = mjcallV (fun c => mjlk c L) n nx) (hg : mjg n st = true) (ha : (st.take n).reverse = .ref a :: as) (hn : a < mjN h)
    (h1 : ∃ j, mjlk (mjT h a).1 L = some j ∧ mjEv d j (.ref a :: as) h (.inl o) h') (g : mjGoL PL (d + 1) nx (al, o.toList ++ st.drop n, h') r) : mjGoL PL (d + 1) pc (al, st, h) r := by
  obtain ⟨j, hj, h1⟩ := h1
  refine mjGoL.call hm (n := n) (j := j) (fun call => ?_) (by rw [ha]; exact h1) g
  rw [hp]
  unfold mjcallV
  show (bif mjg n st then _ else none) = _
  rw [hg, ha]
  show (bif Nat.blt a (mjN h) then _ else none) = _
  rw [(Nat.blt_eq).mpr hn]
  dsimp only [cond_true]
  rw [hj]
theorem mjGoS.callL {PL : Nat → MOp} (hm : ∀ pc, mjMn (PL pc)) {d pc nx n a : Nat} {L : List (Nat × Nat)} {al : List (Option Value)} {st as : List Value} {h h' : MH} {o : Option Value} {r : Nat × MF → Prop} (hp : PL pc = mjcallV (fun c => mjlk c L) n nx) (hg : mjg n st = true) (ha : (st.take n).reverse = .ref a :: as) (hn : a < mjN h)
    (h1 : ∃ j, mjlk (mjT h a).1 L = some j ∧ mjEv d j (.ref a :: as) h (.inl o) h') (g : mjGoS PL (d + 1) nx (al, o.toList ++ st.drop n, h') r) : mjGoS PL (d + 1) pc (al, st, h) r := by
  obtain ⟨j, hj, h1⟩ := h1
  refine mjGoS.call hm (n := n) (j := j) (fun call => ?_) (by rw [ha]; exact h1) g
  rw [hp]
  unfold mjcallV
  show (bif mjg n st then _ else none) = _
  rw [hg, ha]
  show (bif Nat.blt a (mjN h) then _ else none) = _
  rw [(Nat.blt_eq).mpr hn]
  dsimp only [cond_true]
  rw [hj]
theorem w_xElA (d : Nat) {p q : Int32} {I : Nat → Nat → Int32} {X : MX} (hs : xShelf p = 0) : mjGoS qyX11_element (d + 2) 0 (mjini 4 [.ref 0, .int p, .int q], [], mjH I X) (fun x => x = (7, ([some (.ref 0), some (.int p), some (.int q), none], [], mjH I X))) := by
  show mjGoS _ _ 0 ([some (.ref 0), some (.int p), some (.int q), none], [], mjH I X) _
  refine mjGoS.run 1 (pc' := 1) (F' := ([some (.ref 0), some (.int p), some (.int q), none], [.int p], mjH I X)) (fun _ _ => rfl) ?_
  refine mjGoS.call qmyX11_element (n := 1) (j := 77) (nx := 4) (o := some (.int 0)) (h' := mjH I X) (fun _ => rfl) ((by have q9 := c_xShelf (d + 1) p (mjH I X); rw [hs] at q9; exact q9)) ?_
  show mjGoS _ _ 4 ([some (.ref 0), some (.int p), some (.int q), none], [.int 0], mjH I X) _
  refine mjGoS.run 1 (pc' := 7) (F' := ([some (.ref 0), some (.int p), some (.int q), none], [], mjH I X)) (fun _ _ => rfl) ?_
  exact mjGoS.done rfl
theorem w_xElB (d : Nat) {e : Nat} {q : Int32} {I : Nat → Nat → Int32} {X : MX} (he : e < 8) (hh : ¬ I 24 e = 2) : mjGoS qyX11_element (d + 2) 0 (mjini 4 [.ref 0, .int (nI e), .int q], [], mjH I X) (fun x => x = (25, ([some (.ref 0), some (.int (nI e)), some (.int q), none], [], mjH I X))) := by
  show mjGoS _ _ 0 ([some (.ref 0), some (.int (nI e)), some (.int q), none], [], mjH I X) _
  refine mjGoS.run 1 (pc' := 1) (F' := ([some (.ref 0), some (.int (nI e)), some (.int q), none], [.int (nI e)], mjH I X)) (fun _ _ => rfl) ?_
  refine mjGoS.call qmyX11_element (n := 1) (j := 77) (nx := 4) (o := some (.int 1)) (h' := mjH I X) (fun _ => rfl) ((by have q9 := c_xShelf (d + 1) (nI e) (mjH I X); rw [xShelf_1 he] at q9; exact q9)) ?_
  show mjGoS _ _ 4 ([some (.ref 0), some (.int (nI e)), some (.int q), none], [.int 1], mjH I X) _
  refine mjGoS.run 3 (pc' := 19) (F' := ([some (.ref 0), some (.int (nI e)), some (.int q), none], [.int (nI e), .ref 0], mjH I X)) (fun _ _ => rfl) ?_
  refine mjGoS.call qmyX11_element (n := 2) (j := 197) (nx := 22) (o := some (.int 0)) (h' := mjH I X) (fun _ => rfl) (c_hr0 _ he hh) ?_
  show mjGoS _ _ 22 ([some (.ref 0), some (.int (nI e)), some (.int q), none], [.int 0], mjH I X) _
  refine mjGoS.run 1 (pc' := 25) (F' := ([some (.ref 0), some (.int (nI e)), some (.int q), none], [], mjH I X)) (fun _ _ => rfl) ?_
  exact mjGoS.done rfl
theorem w_xElC (d : Nat) {e sz : Nat} {q : Int32} {I : Nat → Nat → Int32} {X : MX} (he : e < 8) (hh : I 24 e = 2) (hz : I (27 + 2 * e) 2 = nI sz) (hs : sz ≤ 100) (hv : mIn q 0 (nI sz - 1) = 0) : mjGoS qyX11_element (d + 2) 0 (mjini 4 [.ref 0, .int (nI e), .int q], [], mjH I X) (fun x => x = (51, ([some (.ref 0), some (.int (nI e)), some (.int q), some (.ref (27 + 2 * e))], [], mjH I X))) := by
  have hp := xHasP_0 hz hs hv
  show mjGoS _ _ 0 ([some (.ref 0), some (.int (nI e)), some (.int q), none], [], mjH I X) _
  refine mjGoS.run 1 (pc' := 1) (F' := ([some (.ref 0), some (.int (nI e)), some (.int q), none], [.int (nI e)], mjH I X)) (fun _ _ => rfl) ?_
  refine mjGoS.call qmyX11_element (n := 1) (j := 77) (nx := 4) (o := some (.int 1)) (h' := mjH I X) (fun _ => rfl) ((by have q9 := c_xShelf (d + 1) (nI e) (mjH I X); rw [xShelf_1 he] at q9; exact q9)) ?_
  show mjGoS _ _ 4 ([some (.ref 0), some (.int (nI e)), some (.int q), none], [.int 1], mjH I X) _
  refine mjGoS.run 3 (pc' := 19) (F' := ([some (.ref 0), some (.int (nI e)), some (.int q), none], [.int (nI e), .ref 0], mjH I X)) (fun _ _ => rfl) ?_
  refine mjGoS.call qmyX11_element (n := 2) (j := 197) (nx := 22) (o := some (.int 1)) (h' := mjH I X) (fun _ => rfl) (c_hr1 _ he hh) ?_
  show mjGoS _ _ 22 ([some (.ref 0), some (.int (nI e)), some (.int q), none], [.int 1], mjH I X) _
  refine mjGoS.run 4 (pc' := 41) (F' := ([some (.ref 0), some (.int (nI e)), some (.int q), none], [.int (nI e), .ref 26], mjH I X)) (fun _ _ => rfl) ?_
  refine mjGoS.op (pc' := 42) (F' := ([some (.ref 0), some (.int (nI e)), some (.int q), none], [.ref (27 + 2 * e)], mjH I X)) (o := mjaald 15 42) rfl (fun _ => row_aald he) ?_
  refine mjGoS.run 3 (pc' := 45) (F' := ([some (.ref 0), some (.int (nI e)), some (.int q), some (.ref (27 + 2 * e))], [.int q, .ref (27 + 2 * e)], mjH I X)) (fun _ _ => rfl) ?_
  refine mjGoS.callL qmyX11_element (o := some (.int 0)) (h' := mjH I X) (nx := 48) rfl rfl rfl ((row_N he).1) ⟨_, row_lk he, (by have q9 := c_xHasP (d + 1) (I := I) (X := X) e q he; rw [hp] at q9; exact q9)⟩ ?_
  show mjGoS _ _ 48 ([some (.ref 0), some (.int (nI e)), some (.int q), some (.ref (27 + 2 * e))], [.int 0], mjH I X) _
  refine mjGoS.run 1 (pc' := 51) (F' := ([some (.ref 0), some (.int (nI e)), some (.int q), some (.ref (27 + 2 * e))], [], mjH I X)) (fun _ _ => rfl) ?_
  exact mjGoS.done rfl
theorem w_xElD (d : Nat) {e sz j : Nat} {I : Nat → Nat → Int32} {X : MX} (he : e < 8) (hh : I 24 e = 2) (hz : I (27 + 2 * e) 2 = nI sz) (hs : sz ≤ 100) (hj : j < sz) : mjGoL qyX11_element (d + 2) 0 (mjini 4 [.ref 0, .int (nI e), .int (nI j)], [], mjH I X) (fun x => x = (.inl (some (.long (I (28 + 2 * e) j).toInt64)), mjH I X)) := by
  have hp := xHasP_1 hz hs hj
  have hx9 : xVal I e (nI j) = I (28 + 2 * e) j := by
    unfold xVal
    rw [hp, if_neg (by decide), nI_clamp (by omega)]
  show mjGoL _ _ 0 ([some (.ref 0), some (.int (nI e)), some (.int (nI j)), none], [], mjH I X) _
  refine mjGoL.run 1 (pc' := 1) (F' := ([some (.ref 0), some (.int (nI e)), some (.int (nI j)), none], [.int (nI e)], mjH I X)) (fun _ => rfl) ?_
  refine mjGoL.call qmyX11_element (n := 1) (j := 77) (nx := 4) (o := some (.int 1)) (h' := mjH I X) (fun _ => rfl) ((by have q9 := c_xShelf (d + 1) (nI e) (mjH I X); rw [xShelf_1 he] at q9; exact q9)) ?_
  show mjGoL _ _ 4 ([some (.ref 0), some (.int (nI e)), some (.int (nI j)), none], [.int 1], mjH I X) _
  refine mjGoL.run 3 (pc' := 19) (F' := ([some (.ref 0), some (.int (nI e)), some (.int (nI j)), none], [.int (nI e), .ref 0], mjH I X)) (fun _ => rfl) ?_
  refine mjGoL.call qmyX11_element (n := 2) (j := 197) (nx := 22) (o := some (.int 1)) (h' := mjH I X) (fun _ => rfl) (c_hr1 _ he hh) ?_
  show mjGoL _ _ 22 ([some (.ref 0), some (.int (nI e)), some (.int (nI j)), none], [.int 1], mjH I X) _
  refine mjGoL.run 4 (pc' := 41) (F' := ([some (.ref 0), some (.int (nI e)), some (.int (nI j)), none], [.int (nI e), .ref 26], mjH I X)) (fun _ => rfl) ?_
  refine mjGoL.op (pc' := 42) (F' := ([some (.ref 0), some (.int (nI e)), some (.int (nI j)), none], [.ref (27 + 2 * e)], mjH I X)) (o := mjaald 15 42) rfl (fun _ => row_aald he) ?_
  refine mjGoL.run 3 (pc' := 45) (F' := ([some (.ref 0), some (.int (nI e)), some (.int (nI j)), some (.ref (27 + 2 * e))], [.int (nI j), .ref (27 + 2 * e)], mjH I X)) (fun _ => rfl) ?_
  refine mjGoL.callL qmyX11_element (o := some (.int 1)) (h' := mjH I X) (nx := 48) rfl rfl rfl ((row_N he).1) ⟨_, row_lk he, (by have q9 := c_xHasP (d + 1) (I := I) (X := X) e (nI j) he; rw [hp] at q9; exact q9)⟩ ?_
  show mjGoL _ _ 48 ([some (.ref 0), some (.int (nI e)), some (.int (nI j)), some (.ref (27 + 2 * e))], [.int 1], mjH I X) _
  refine mjGoL.run 3 (pc' := 64) (F' := ([some (.ref 0), some (.int (nI e)), some (.int (nI j)), some (.ref (27 + 2 * e))], [.int (nI j), .ref (27 + 2 * e)], mjH I X)) (fun _ => rfl) ?_
  refine mjGoL.callL qmyX11_element (o := some (.int (I (28 + 2 * e) j))) (h' := mjH I X) (nx := 67) rfl rfl rfl ((row_N he).1) ⟨_, row_lk he, (by have q9 := c_xVal d (I := I) (X := X) e (nI j) he; rw [hx9] at q9; exact q9)⟩ ?_
  show mjGoL _ _ 67 ([some (.ref 0), some (.int (nI e)), some (.int (nI j)), some (.ref (27 + 2 * e))], [.int (I (28 + 2 * e) j)], mjH I X) _
  exact mjGoL.ret 2 (fun _ => rfl) rfl
/-- the contract: a value, or the name of what is thrown -/
def mjElC (K : MK) (l : Launch) (h : MH) (p q : Int32) (r : Int64 ⊕ String) : Prop := ∀ ad : Nat → Nat, vx_Met l yX11_element (.code yX11_element cX11_element 4 (some .long) :: mjGA) (mjrm 5 1 6) (mjPm K ad h [.ref 0, .int p, .int q]) (fun a st o t => ∃ b, r = .inl b ∧ mjQm K ad h (some (.long b)) h a st o t) (fun E st t => ∃ E', r = .inr E' ∧ mjQx K ad h E' (mjN h) E st t) 1 6 (mkA K)
theorem x_elD {K : MK} {l : Launch} {h : MH} {p q : Int32} {b : Int64} (h0 : 0 < mjN h) (g : mjGoL qyX11_element 5 0 (mjini 4 [.ref 0, .int p, .int q], [], h) (fun x => x = (.inl (some (.long b)), h))) : mjElC K l h p q (.inl b) := by
  intro ad
  refine vx_ofW (cc := cX11_element) (maxL := 4) (ret := some .long) (by decide +kernel) rfl ?_
  intro p9 e s m args below meth c s₁ B hml hno hv
  obtain ⟨rfl, hen, hW⟩ := hv
  obtain ⟨ls, e1, hFr⟩ := mjx_fr (K := K) (ad := ad) (h := h) (as := [.ref 0, .int p, .int q]) (nL := 4) m hen.cat (fun v hv => by
    rcases List.mem_cons.mp hv with e | hv
    · rw [e]; exact Or.inl h0
    rcases List.mem_cons.mp hv with e | hv
    · rw [e]; trivial
    · rw [List.mem_singleton.mp hv]; trivial) (by simp) (fun v hv => by
    rcases List.mem_cons.mp hv with e | hv
    · rw [e]; rfl
    rcases List.mem_cons.mp hv with e | hv
    · rw [e]; rfl
    · rw [List.mem_singleton.mp hv]; rfl)
  rw [e1]
  have cx := mjx_cx B hml hen 5 (Nat.le_refl _) (Nat.le_refl _)
  obtain ⟨n, x, hn, rfl⟩ := g
  exact mjx_run mjGA_G (qkyX11_element mjGA_good mjGA_X mjGA_lay) hn cx hW hFr va_S.rf (c0 := mjC h) (s0 := mjS h) rfl rfl (Nat.le_add_right _ _) (Nat.le_add_right _ _) (Nat.le_refl _) (Nat.le_refl _) fun ad' t he hw hs hF => ⟨b, rfl, ⟨ad', rfl, he, hw, hs⟩, hF⟩
theorem x_elA {K : MK} {l : Launch} (hl : l.stackTraces = false) {h : MH} {p q : Int32} {al : List (Option Value)} (h0 : 0 < mjN h) (g : mjGoS qyX11_element 5 0 (mjini 4 [.ref 0, .int p, .int q], [], h) (fun x => x = (7, (al, [], h)))) : mjElC K l h p q (.inr "java/lang/IllegalArgumentException") := by
  intro ad
  refine vx_ofW (cc := cX11_element) (maxL := 4) (ret := some .long) (by decide +kernel) rfl ?_
  intro p9 e s m args below meth c s₁ B hml hno hv
  obtain ⟨rfl, hen, hW⟩ := hv
  obtain ⟨ls, e1, hFr⟩ := mjx_fr (K := K) (ad := ad) (h := h) (as := [.ref 0, .int p, .int q]) (nL := 4) m hen.cat (fun v hv => by
    rcases List.mem_cons.mp hv with e | hv
    · rw [e]; exact Or.inl h0
    rcases List.mem_cons.mp hv with e | hv
    · rw [e]; trivial
    · rw [List.mem_singleton.mp hv]; trivial) (by simp) (fun v hv => by
    rcases List.mem_cons.mp hv with e | hv
    · rw [e]; rfl
    rcases List.mem_cons.mp hv with e | hv
    · rw [e]; rfl
    · rw [List.mem_singleton.mp hv]; rfl)
  rw [e1]
  have cx := mjx_cx B hml hen 5 (Nat.le_refl _) (Nat.le_refl _)
  obtain ⟨N, n, x, hn, rfl⟩ := g
  refine (mj_part (mjcl_ok mjGA_G N 5) (qkyX11_element mjGA_good mjGA_X mjGA_lay) n 0 _ 7 _ hn).2 p9 e _ s m _ below meth c cx _ (mjC h) (mjS h) 0 0 s.heap [] ls ad hW hFr va_S.rf rfl rfl (Nat.le_add_right _ _) (Nat.le_add_right _ _) ?_
  intro ad' H' locs' ls' cells' slots' he hW' hF' hS' h1 h2
  have h1 : mjC h + cells' = mjC h := h1
  have h2 : mjS h + slots' = mjS h := h2
  obtain ⟨⟨z1, z2⟩, z3, -⟩ := hen.2.2.2.2.2.1.2.2.2.2.2
  obtain ⟨sa, hstr⟩ := z3 ("LookAtClock", 250, "no such shelf") (by decide)
  have w9 : ∀ w ∈ mjGA, w.before (List.map (mjrn (mkZ K) ad) [Value.ref 0, .int p, .int q]).toArray s = true := fun w hw => atoms_spec (ws := _ :: mjGA) B.pre w (List.mem_cons_of_mem _ hw)
  refine vx_throwS (own := "LookAtClock") (cls := "java/lang/IllegalArgumentException") (text := "no such shelf") (ik := 248) (is := 250) (ic := 252) (names := mjnms) B.exec B.bytes hl (findClass_of_methodNamed B.named) (by decide +kernel) (by decide +kernel) (w9 _ (mjGA_X _ wx69)) (w9 _ (mjGA_X _ wx68)) hstr (mjhatA hen w9) (by decide +kernel) z1 z2 hS' (hF'.1.1.trans hml.symm) dX11_element_7 dX11_element_10 dX11_element_11 dX11_element_13 dX11_element_16 (fun x hx => (hno x hx).elim) (by decide) (by show 0 + (13 * 3 + 43) ≤ 600 + 60 * 5; omega) (by show cells' + 1 ≤ 1; omega) (by show slots' + 6 ≤ 6; omega) B.notSynchronized ?_ hS'.2.2 (by omega) (by omega)
  intro t ha hz1 hz2
  exact ⟨_, rfl, mjQx_of he hW' hS' hz1 hz2⟩
theorem x_elB {K : MK} {l : Launch} (hl : l.stackTraces = false) {h : MH} {p q : Int32} {al : List (Option Value)} (h0 : 0 < mjN h) (g : mjGoS qyX11_element 5 0 (mjini 4 [.ref 0, .int p, .int q], [], h) (fun x => x = (25, (al, [], h)))) : mjElC K l h p q (.inr "java/lang/IllegalStateException") := by
  intro ad
  refine vx_ofW (cc := cX11_element) (maxL := 4) (ret := some .long) (by decide +kernel) rfl ?_
  intro p9 e s m args below meth c s₁ B hml hno hv
  obtain ⟨rfl, hen, hW⟩ := hv
  obtain ⟨ls, e1, hFr⟩ := mjx_fr (K := K) (ad := ad) (h := h) (as := [.ref 0, .int p, .int q]) (nL := 4) m hen.cat (fun v hv => by
    rcases List.mem_cons.mp hv with e | hv
    · rw [e]; exact Or.inl h0
    rcases List.mem_cons.mp hv with e | hv
    · rw [e]; trivial
    · rw [List.mem_singleton.mp hv]; trivial) (by simp) (fun v hv => by
    rcases List.mem_cons.mp hv with e | hv
    · rw [e]; rfl
    rcases List.mem_cons.mp hv with e | hv
    · rw [e]; rfl
    · rw [List.mem_singleton.mp hv]; rfl)
  rw [e1]
  have cx := mjx_cx B hml hen 5 (Nat.le_refl _) (Nat.le_refl _)
  obtain ⟨N, n, x, hn, rfl⟩ := g
  refine (mj_part (mjcl_ok mjGA_G N 5) (qkyX11_element mjGA_good mjGA_X mjGA_lay) n 0 _ 25 _ hn).2 p9 e _ s m _ below meth c cx _ (mjC h) (mjS h) 0 0 s.heap [] ls ad hW hFr va_S.rf rfl rfl (Nat.le_add_right _ _) (Nat.le_add_right _ _) ?_
  intro ad' H' locs' ls' cells' slots' he hW' hF' hS' h1 h2
  have h1 : mjC h + cells' = mjC h := h1
  have h2 : mjS h + slots' = mjS h := h2
  obtain ⟨⟨z1, z2⟩, z3, -⟩ := hen.2.2.2.2.2.1.2.2.2.2.2
  obtain ⟨sa, hstr⟩ := z3 ("LookAtClock", 260, "no row") (by decide)
  have w9 : ∀ w ∈ mjGA, w.before (List.map (mjrn (mkZ K) ad) [Value.ref 0, .int p, .int q]).toArray s = true := fun w hw => atoms_spec (ws := _ :: mjGA) B.pre w (List.mem_cons_of_mem _ hw)
  refine vx_throwSW (own := "LookAtClock") (cls := "java/lang/IllegalStateException") (text := "no row") (ik := 258) (is := 260) (ic := 262) (names := mjnms) B.exec B.bytes hl (findClass_of_methodNamed B.named) (by decide +kernel) (by decide +kernel) (w9 _ (mjGA_X _ wx70)) (w9 _ (mjGA_X _ wx66)) hstr (mjhatS hen w9) (by decide +kernel) z1 z2 hS' (hF'.1.1.trans hml.symm) dX11_element_25 dX11_element_28 dX11_element_29 dX11_element_32 dX11_element_35 (fun x hx => (hno x hx).elim) (by decide) (by show 0 + (13 * 3 + 43) ≤ 600 + 60 * 5; omega) (by show cells' + 1 ≤ 1; omega) (by show slots' + 6 ≤ 6; omega) B.notSynchronized ?_ hS'.2.2 (by omega) (by omega)
  intro t ha hz1 hz2
  exact ⟨_, rfl, mjQx_of he hW' hS' hz1 hz2⟩
theorem x_elC {K : MK} {l : Launch} (hl : l.stackTraces = false) {h : MH} {p q : Int32} {al : List (Option Value)} (h0 : 0 < mjN h) (g : mjGoS qyX11_element 5 0 (mjini 4 [.ref 0, .int p, .int q], [], h) (fun x => x = (51, (al, [], h)))) : mjElC K l h p q (.inr "java/lang/IllegalStateException") := by
  intro ad
  refine vx_ofW (cc := cX11_element) (maxL := 4) (ret := some .long) (by decide +kernel) rfl ?_
  intro p9 e s m args below meth c s₁ B hml hno hv
  obtain ⟨rfl, hen, hW⟩ := hv
  obtain ⟨ls, e1, hFr⟩ := mjx_fr (K := K) (ad := ad) (h := h) (as := [.ref 0, .int p, .int q]) (nL := 4) m hen.cat (fun v hv => by
    rcases List.mem_cons.mp hv with e | hv
    · rw [e]; exact Or.inl h0
    rcases List.mem_cons.mp hv with e | hv
    · rw [e]; trivial
    · rw [List.mem_singleton.mp hv]; trivial) (by simp) (fun v hv => by
    rcases List.mem_cons.mp hv with e | hv
    · rw [e]; rfl
    rcases List.mem_cons.mp hv with e | hv
    · rw [e]; rfl
    · rw [List.mem_singleton.mp hv]; rfl)
  rw [e1]
  have cx := mjx_cx B hml hen 5 (Nat.le_refl _) (Nat.le_refl _)
  obtain ⟨N, n, x, hn, rfl⟩ := g
  refine (mj_part (mjcl_ok mjGA_G N 5) (qkyX11_element mjGA_good mjGA_X mjGA_lay) n 0 _ 51 _ hn).2 p9 e _ s m _ below meth c cx _ (mjC h) (mjS h) 0 0 s.heap [] ls ad hW hFr va_S.rf rfl rfl (Nat.le_add_right _ _) (Nat.le_add_right _ _) ?_
  intro ad' H' locs' ls' cells' slots' he hW' hF' hS' h1 h2
  have h1 : mjC h + cells' = mjC h := h1
  have h2 : mjS h + slots' = mjS h := h2
  obtain ⟨⟨z1, z2⟩, z3, -⟩ := hen.2.2.2.2.2.1.2.2.2.2.2
  obtain ⟨sa, hstr⟩ := z3 ("LookAtClock", 263, "no such place") (by decide)
  have w9 : ∀ w ∈ mjGA, w.before (List.map (mjrn (mkZ K) ad) [Value.ref 0, .int p, .int q]).toArray s = true := fun w hw => atoms_spec (ws := _ :: mjGA) B.pre w (List.mem_cons_of_mem _ hw)
  refine vx_throwSW (own := "LookAtClock") (cls := "java/lang/IllegalStateException") (text := "no such place") (ik := 258) (is := 263) (ic := 262) (names := mjnms) B.exec B.bytes hl (findClass_of_methodNamed B.named) (by decide +kernel) (by decide +kernel) (w9 _ (mjGA_X _ wx70)) (w9 _ (mjGA_X _ wx66)) hstr (mjhatS hen w9) (by decide +kernel) z1 z2 hS' (hF'.1.1.trans hml.symm) dX11_element_51 dX11_element_54 dX11_element_55 dX11_element_58 dX11_element_61 (fun x hx => (hno x hx).elim) (by decide) (by show 0 + (13 * 3 + 43) ≤ 600 + 60 * 5; omega) (by show cells' + 1 ≤ 1; omega) (by show slots' + 6 ≤ 6; omega) B.notSynchronized ?_ hS'.2.2 (by omega) (by omega)
  intro t ha hz1 hz2
  exact ⟨_, rfl, mjQx_of he hW' hS' hz1 hz2⟩
