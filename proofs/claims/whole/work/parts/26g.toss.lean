/-! toss: class and reference -/
def bpX (X : MX) : MX := (X.1, X.2.1, X.2.2.1, X.2.2.2.1, X.2.2.2.2.1 + 1, X.2.2.2.2.2 + 6)
theorem w_tsF (d : Nat) {e a : Nat} {I : Nat → Nat → Int32} {X : MX} (he : e < 8) (hh : I 24 e = 1) (hP : X.1 25 e = some a) : mjGoS qyX11_toss (d + 3) 0 (mjini 5 [.ref 0, .int (nI e)], [], mjH I X) (fun x => x = (20, ([some (.ref 0), some (.int (nI e)), some (.int 0), some (.ref a), none], [.ref a], mjH I X))) := by
  show mjGoS _ _ 0 ([some (.ref 0), some (.int (nI e)), none, none, none], [], mjH I X) _
  refine mjGoS.run 2 (pc' := 2) (F' := ([some (.ref 0), some (.int (nI e)), none, none, none], [.int (nI e), .ref 0], mjH I X)) (fun _ _ => rfl) ?_
  refine mjGoS.call qmyX11_toss (n := 2) (j := 129) (nx := 5) (o := some (.int 0)) (h' := mjH I X) (fun _ => rfl) (c_rlD _ he hh hP) ?_
  show mjGoS _ _ 5 ([some (.ref 0), some (.int (nI e)), none, none, none], [.int 0], mjH I X) _
  refine mjGoS.run 6 (pc' := 17) (F' := ([some (.ref 0), some (.int (nI e)), some (.int 0), none, none], [.int (nI e), .ref 25], mjH I X)) (fun _ _ => rfl) ?_
  refine mjGoS.op (pc' := 18) (F' := ([some (.ref 0), some (.int (nI e)), some (.int 0), none, none], [.ref a], mjH I X)) (o := mjaald 14 18) rfl (fun _ => aald_at (n := 8) he (by omega) rfl rfl hP) ?_
  refine mjGoS.run 2 (pc' := 20) (F' := ([some (.ref 0), some (.int (nI e)), some (.int 0), some (.ref a), none], [.ref a], mjH I X)) (fun _ _ => rfl) ?_
  exact mjGoS.done rfl
theorem w_tsA (d : Nat) {p : Int32} {I : Nat → Nat → Int32} {X : MX} (hs : xShelf p = 0) : mjGoL qyX11_toss (d + 3) 0 (mjini 5 [.ref 0, .int p], [], mjH I X) (fun x => x = (.inl (some (.int (-1))), mjH I X)) := by
  show mjGoL _ _ 0 ([some (.ref 0), some (.int p), none, none, none], [], mjH I X) _
  refine mjGoL.run 2 (pc' := 2) (F' := ([some (.ref 0), some (.int p), none, none, none], [.int p, .ref 0], mjH I X)) (fun _ => rfl) ?_
  refine mjGoL.call qmyX11_toss (n := 2) (j := 129) (nx := 5) (o := some (.int (-1))) (h' := mjH I X) (fun _ => rfl) (c_rlA _ hs) ?_
  show mjGoL _ _ 5 ([some (.ref 0), some (.int p), none, none, none], [.int (-1)], mjH I X) _
  exact mjGoL.ret 5 (fun _ => rfl) rfl
theorem w_tsB (d : Nat) {e : Nat} {I : Nat → Nat → Int32} {X : MX} (he : e < 8) (hh : I 24 e = 0) : mjGoL qyX11_toss (d + 3) 0 (mjini 5 [.ref 0, .int (nI e)], [], mjH I X) (fun x => x = (.inl (some (.int (-11))), mjH I X)) := by
  show mjGoL _ _ 0 ([some (.ref 0), some (.int (nI e)), none, none, none], [], mjH I X) _
  refine mjGoL.run 2 (pc' := 2) (F' := ([some (.ref 0), some (.int (nI e)), none, none, none], [.int (nI e), .ref 0], mjH I X)) (fun _ => rfl) ?_
  refine mjGoL.call qmyX11_toss (n := 2) (j := 129) (nx := 5) (o := some (.int (-11))) (h' := mjH I X) (fun _ => rfl) (c_rlB _ he hh) ?_
  show mjGoL _ _ 5 ([some (.ref 0), some (.int (nI e)), none, none, none], [.int (-11)], mjH I X) _
  exact mjGoL.ret 5 (fun _ => rfl) rfl
theorem w_tsC (d : Nat) {e : Nat} {I : Nat → Nat → Int32} {X : MX} (he : e < 8) (hh : I 24 e = 2) : mjGoL qyX11_toss (d + 3) 0 (mjini 5 [.ref 0, .int (nI e)], [], mjH I X) (fun x => x = (.inl (some (.int (-12))), mjH I X)) := by
  show mjGoL _ _ 0 ([some (.ref 0), some (.int (nI e)), none, none, none], [], mjH I X) _
  refine mjGoL.run 2 (pc' := 2) (F' := ([some (.ref 0), some (.int (nI e)), none, none, none], [.int (nI e), .ref 0], mjH I X)) (fun _ => rfl) ?_
  refine mjGoL.call qmyX11_toss (n := 2) (j := 129) (nx := 5) (o := some (.int (-12))) (h' := mjH I X) (fun _ => rfl) (c_rlC _ he hh) ?_
  show mjGoL _ _ 5 ([some (.ref 0), some (.int (nI e)), none, none, none], [.int (-12)], mjH I X) _
  exact mjGoL.ret 5 (fun _ => rfl) rfl
theorem w_ts28 (d : Nat) {q : Int32} {a kd : Nat} {I : Nat → Nat → Int32} {X : MX} (hlk : lkK X a kd) : mjGoL qyX11_toss d 28 ([some (.ref 0), some (.int q), some (.int 0), some (.ref a), none], [], mjH I X) (fun x => x = (.inl (some (.int (I a 0 + 100))), mjH I X)) := by
  refine mjGoL.run 1 (pc' := 29) (F' := ([some (.ref 0), some (.int q), some (.int 0), some (.ref a), none], [.ref a], mjH I X)) (fun _ => rfl) ?_
  refine mjGoL.op (pc' := 32) (F' := ([some (.ref 0), some (.int q), some (.int 0), some (.ref a), none], [.int (I a 0)], mjH I X)) (o := mjgetI [0, 1, 2, 4, 5, 7, 8, 9] 0 32) rfl (fun _ => lkK_get hlk rfl) ?_
  exact mjGoL.ret 3 (fun _ => rfl) rfl
theorem w_ts38 (d : Nat) {q f : Int32} {a kd : Nat} {I : Nat → Nat → Int32} {X : MX} (hlk : lkK X a kd) (hf : I a 1 = f) : mjGoL qyX11_toss (d + 5) 38 ([some (.ref 0), some (.int q), some (.int 0), some (.ref a), none], [], mjH I X) (fun x => x = (.inl (some (.int (skV kd f + 200))), mjH I X)) := by
  refine mjGoL.run 1 (pc' := 39) (F' := ([some (.ref 0), some (.int q), some (.int 0), some (.ref a), none], [.ref a], mjH I X)) (fun _ => rfl) ?_
  refine mjGoL.callL qmyX11_toss (o := some (.int (skV kd f))) (h' := mjH I X) (nx := 42) rfl rfl rfl (hlk.2.1) (v_skill hlk hf) ?_
  show mjGoL _ _ 42 ([some (.ref 0), some (.int q), some (.int 0), some (.ref a), none], [.int (skV kd f)], mjH I X) _
  exact mjGoL.ret 3 (fun _ => rfl) rfl
theorem w_ts49 (d : Nat) {q : Int32} {a kd : Nat} {I : Nat → Nat → Int32} {X : MX} (hlk : lkK X a kd) : mjGoL qyX11_toss d 49 ([some (.ref 0), some (.int q), some (.int 0), some (.ref a), none], [], mjH I X) (fun x => x = (.inl (some (.int (I a 0))), mjH I X)) := by
  refine mjGoL.run 1 (pc' := 50) (F' := ([some (.ref 0), some (.int q), some (.int 0), some (.ref a), none], [.ref a], mjH I X)) (fun _ => rfl) ?_
  refine mjGoL.op (pc' := 53) (F' := ([some (.ref 0), some (.int q), some (.int 0), some (.ref a), none], [.int (I a 0)], mjH I X)) (o := mjgetI [0, 1, 2, 4, 5, 7, 8, 9] 0 53) rfl (fun _ => lkK_get hlk rfl) ?_
  exact mjGoL.ret 1 (fun _ => rfl) rfl
theorem c_tossL {K : MK} {l : Launch} (hl : l.stackTraces = false) {I : Nat → Nat → Int32} {X : MX} {e a kd : Nat} (he : e < 8) (hh : I 24 e = 1) (hm : I 66 e = 1) (hP : X.1 25 e = some a) (hK : lkK X a kd) (l0 : I a 0 = I 71 e) (l1 : I a 1 = I 73 e) (hk9 : I 72 e = nI kd) : ∃ v, mjTsC K l (mjH I X) (nI e) v ∧ ∀ (d : Nat) (X9 : MX), mjEv (d + 12) nyX12_toss [.ref 43, .int (nI e)] (mjH I X9) (.inl (some (.int v))) (mjH I X9) := by
  have hka : a < mjN (mjH I X) := hK.2.1
  have hkd := hK.2.2.2
  have hc : (mjT (mjH I X) a).1 = lkc kd := by rw [mjH_T hK.1, hK.2.2.1]
  match kd, hkd with
  | 0, _ =>
    refine ⟨if I a 1 = 0 then -15 else I a 0, x_tsF (by show 75 ≤ X.2.2.2.1 + 75; omega) hka (fl_4 hl hka hc rfl) (w_tsF 3 he hh hP) (fun h => if_pos h) (fun h => ?_), fun d X9 => ?_⟩
    · have h : ¬ I a 1 = 0 := h
      rw [if_neg h]
      exact Or.inr (Or.inr ⟨rfl, w_ts49 6 (X := bpX X) hK⟩)
    · by_cases h9 : I a 1 = 0
      · rw [if_pos h9]
        exact c_mTsE (d + 9) he hm hk9 (by omega) (by omega) (l1.symm.trans h9)
      · rw [if_neg h9]
        have r9 := c_mTsH (d + 9) (X := X9) he hm hk9 (by omega) (by omega) (fun z => h9 (l1.trans z)) (by omega) (by omega)
        rw [← l0] at r9
        exact r9
  | 1, _ =>
    refine ⟨if I a 1 = 0 then -15 else I a 0, x_tsF (by show 75 ≤ X.2.2.2.1 + 75; omega) hka (fl_5 hl hka hc rfl) (w_tsF 3 he hh hP) (fun h => if_pos h) (fun h => ?_), fun d X9 => ?_⟩
    · have h : ¬ I a 1 = 0 := h
      rw [if_neg h]
      exact Or.inr (Or.inr ⟨rfl, w_ts49 6 (X := bpX X) hK⟩)
    · by_cases h9 : I a 1 = 0
      · rw [if_pos h9]
        exact c_mTsE (d + 9) he hm hk9 (by omega) (by omega) (l1.symm.trans h9)
      · rw [if_neg h9]
        have r9 := c_mTsH (d + 9) (X := X9) he hm hk9 (by omega) (by omega) (fun z => h9 (l1.trans z)) (by omega) (by omega)
        rw [← l0] at r9
        exact r9
  | 2, _ =>
    refine ⟨if I a 1 = 0 then -15 else I a 0, x_tsF (by show 75 ≤ X.2.2.2.1 + 75; omega) hka (fl_2 hl hka hc rfl) (w_tsF 3 he hh hP) (fun h => if_pos h) (fun h => ?_), fun d X9 => ?_⟩
    · have h : ¬ I a 1 = 0 := h
      rw [if_neg h]
      exact Or.inr (Or.inr ⟨rfl, w_ts49 6 (X := bpX X) hK⟩)
    · by_cases h9 : I a 1 = 0
      · rw [if_pos h9]
        exact c_mTsE (d + 9) he hm hk9 (by omega) (by omega) (l1.symm.trans h9)
      · rw [if_neg h9]
        have r9 := c_mTsH (d + 9) (X := X9) he hm hk9 (by omega) (by omega) (fun z => h9 (l1.trans z)) (by omega) (by omega)
        rw [← l0] at r9
        exact r9
  | 3, _ =>
    refine ⟨if I a 1 = 0 then -15 else I a 0, x_tsF (by show 75 ≤ X.2.2.2.1 + 75; omega) hka (fl_1 hl hka hc rfl) (w_tsF 3 he hh hP) (fun h => if_pos h) (fun h => ?_), fun d X9 => ?_⟩
    · have h : ¬ I a 1 = 0 := h
      rw [if_neg h]
      exact Or.inr (Or.inr ⟨rfl, w_ts49 6 (X := bpX X) hK⟩)
    · by_cases h9 : I a 1 = 0
      · rw [if_pos h9]
        exact c_mTsE (d + 9) he hm hk9 (by omega) (by omega) (l1.symm.trans h9)
      · rw [if_neg h9]
        have r9 := c_mTsH (d + 9) (X := X9) he hm hk9 (by omega) (by omega) (fun z => h9 (l1.trans z)) (by omega) (by omega)
        rw [← l0] at r9
        exact r9
  | 4, _ =>
    refine ⟨if I a 1 = 0 then -15 else I a 0 + 100, x_tsF (by show 75 ≤ X.2.2.2.1 + 75; omega) hka (fl_0 hl hka hc rfl) (w_tsF 3 he hh hP) (fun h => if_pos h) (fun h => ?_), fun d X9 => ?_⟩
    · have h : ¬ I a 1 = 0 := h
      rw [if_neg h]
      exact Or.inl ⟨rfl, w_ts28 6 (X := bpX X) hK⟩
    · by_cases h9 : I a 1 = 0
      · rw [if_pos h9]
        exact c_mTsE (d + 9) he hm hk9 (by omega) (by omega) (l1.symm.trans h9)
      · rw [if_neg h9]
        have r9 := c_mTsF (d + 9) (X := X9) he hm hk9 (by omega) (by omega) (fun z => h9 (l1.trans z)) rfl
        rw [← l0, Int32.add_comm] at r9
        exact r9
  | 5, _ =>
    refine ⟨if I a 1 = 0 then -15 else I a 0, x_tsF (by show 75 ≤ X.2.2.2.1 + 75; omega) hka (fl_8 hl hka hc rfl) (w_tsF 3 he hh hP) (fun h => if_pos h) (fun h => ?_), fun d X9 => ?_⟩
    · have h : ¬ I a 1 = 0 := h
      rw [if_neg h]
      exact Or.inr (Or.inr ⟨rfl, w_ts49 6 (X := bpX X) hK⟩)
    · by_cases h9 : I a 1 = 0
      · rw [if_pos h9]
        exact c_mTsE (d + 9) he hm hk9 (by omega) (by omega) (l1.symm.trans h9)
      · rw [if_neg h9]
        have r9 := c_mTsH (d + 9) (X := X9) he hm hk9 (by omega) (by omega) (fun z => h9 (l1.trans z)) (by omega) (by omega)
        rw [← l0] at r9
        exact r9
  | 6, _ => exact ⟨-15, x_tsF (by show 75 ≤ X.2.2.2.1 + 75; omega) hka (fl_9 hl hka hc rfl) (w_tsF 3 he hh hP) (fun _ => rfl) (fun h => absurd trivial h), fun d X9 => c_mTsD (d + 9) he hm hk9 (by omega) rfl⟩
  | 7, _ =>
    refine ⟨if I a 1 = 0 then -15 else skV 7 (I a 1) + 200, x_tsF (by show 75 ≤ X.2.2.2.1 + 75; omega) hka (fl_7 hl hka hc rfl) (w_tsF 3 he hh hP) (fun h => if_pos h) (fun h => ?_), fun d X9 => ?_⟩
    · have h : ¬ I a 1 = 0 := h
      rw [if_neg h]
      exact Or.inr (Or.inl ⟨rfl, w_ts38 1 (X := bpX X) hK rfl⟩)
    · by_cases h9 : I a 1 = 0
      · rw [if_pos h9]
        exact c_mTsE (d + 9) he hm hk9 (by omega) (by omega) (l1.symm.trans h9)
      · rw [if_neg h9]
        have r9 := c_mTsG (d + 9) (X := X9) he hm hk9 (by omega) (by omega) (fun z => h9 (l1.trans z)) rfl
        rw [mSkO_eq hk9 (by omega), ← l1, Int32.add_comm] at r9
        exact r9
theorem c_toss {K : MK} {l : Launch} (hl : l.stackTraces = false) {I : Nat → Nat → Int32} {X : MX} (hR : RI I X) (q : Int32) : ∃ v, mjTsC K l (mjH I X) q v ∧ ∀ (d : Nat) (X9 : MX), mjEv (d + 12) nyX12_toss [.ref 43, .int q] (mjH I X9) (.inl (some (.int v))) (mjH I X9) := by
  rcases shelf_cases q with ⟨e, he, rfl⟩ | ⟨h1, h2⟩
  · obtain ⟨sz, so, hh, g1, g2, ⟨g3, g4⟩, ⟨g5, g6, g7⟩, g8, g9⟩ := hR.sh he
    match hh, g7 with
    | 0, _ => exact ⟨-11, x_tsR (by show 75 ≤ X.2.2.2.1 + 75; omega) (w_tsB 3 he g3), fun d X9 => c_mTsB (d + 9) he g4⟩
    | 2, _ => exact ⟨-12, x_tsR (by show 75 ≤ X.2.2.2.1 + 75; omega) (w_tsC 3 he g3), fun d X9 => c_mTsC (d + 9) he g4⟩
    | 1, _ =>
      obtain ⟨a, kd, hP, hK, l0, l1, l2⟩ := g9 rfl
      exact c_tossL hl he g3 g4 hP hK l0 l1 l2
  · exact ⟨-1, x_tsR (by show 75 ≤ X.2.2.2.1 + 75; omega) (w_tsA 3 h1), fun d X9 => c_mTsA (d + 9) h2⟩
