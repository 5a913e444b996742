/-! calls on works and lookers that read alone -/
theorem aald_at {al : List (Option Value)} {st : List Value} {t nx k j n a : Nat} {h : MH} {call : MCall} (hj : j < n) (hn2 : n < 2 ^ 31) (hk : (Nat.blt k (mjN h) && (mjT h k).1 == t) = true) (hn : (mjT h k).2 = n) (hP : mjP h k j = some a) : mjaald t nx call (al, .int (nI j) :: .ref k :: st, h) = some (.inl (nx, (al, .ref a :: st, h))) := by
  unfold mjaald
  show (bif (Nat.blt k (mjN h) && (mjT h k).1 == t) && mjin (nI j) (mjT h k).2 then (some (.inl (nx, (al, va_rf (mjP h k (nI j).toNatClampNeg) :: st, h))) : Option ((Nat × MF) ⊕ (MO × MH))) else none) = _
  rw [hk, hn, mjin_n hj hn2, nI_clamp (by omega), hP]
  rfl
theorem tR_has {I : Nat → Nat → Int32} {X : MX} (h : RI I X) : ∃ n9, n9 ≤ 5 ∧ I 1 5 = nI n9 ∧ I 44 0 = nI n9 := by
  obtain ⟨⟨_, n9, _, _, h1, _, _, _, _, h6, _⟩, _⟩ := h
  exact ⟨n9, h6.1, h1.1, h1.2⟩
theorem tR_rows {I : Nat → Nat → Int32} {X : MX} (h : RI I X) : I 2 = I 45 ∧ I 3 = I 46 ∧ I 4 = I 47 ∧ I 6 = I 52 := by
  obtain ⟨⟨_, _, _, _, _, _, _, _, h5, _⟩, _⟩ := h
  exact h5
theorem tR_lk {I : Nat → Nat → Int32} {X : MX} (h : RI I X) : ∃ nl, nl ≤ 6 ∧ I 1 6 = nI nl ∧ I 44 1 = nI nl ∧ ∀ i, i < nl → ∃ a kd wn, lkR I X 1 44 i a kd wn := by
  obtain ⟨⟨_, _, nl, _, _, h2, _, _, _, _, _, h8, _, h10⟩, _⟩ := h
  exact ⟨nl, h8, h2.1, h2.2, h10⟩
def xpWork (I : Nat → Nat → Int32) (w q : Int32) : Int32 := if (xHas (I 1 5) w) ≠ 0 then (if q = 0 then (I 2 (w).toNatClampNeg) else (if q = 1 then (I 3 (w).toNatClampNeg) else (if q = 2 then (I 4 (w).toNatClampNeg) else (-1)))) else (-1)
theorem c_xpWork (d : Nat) {I : Nat → Nat → Int32} {X : MX} (w q : Int32) {n9 : Nat} (h5 : n9 ≤ 5) (h15 : I 1 5 = nI n9) : mjEv (d + 1) nyX11_work [.ref 0, .int w, .int q] (mjH I X) (.inl (some (.int (xpWork I w q)))) (mjH I X) := by
  refine mjEv.of ?_
  show mjGo (d + 1) nyX11_work 0 ([some (.ref 0), some (.int w), some (.int q)], [], mjH I X) _
  refine mjGo.run 3 (pc' := 5) (F' := ([some (.ref 0), some (.int w), some (.int q)], [.int w, .ref 1], mjH I X)) (fun _ => rfl) ?_
  refine mjGo.call (n := 2) (j := 41) (nx := 8) (o := some (.int (xHas (I 1 5) w))) (h' := mjH I X) (fun _ => rfl) (c_xHas d w) ?_
  show mjGo _ _ 8 ([some (.ref 0), some (.int w), some (.int q)], [.int (xHas (I 1 5) w)], mjH I X) _
  refine mjGo.run 1 (pc' := (bif decide ((xHas (I 1 5) w) ≠ 0) then 13 else 11)) (F' := ([some (.ref 0), some (.int w), some (.int q)], [], mjH I X)) (fun _ => rfl) ?_
  refine mjGo.br (fun q1 => ?_) (fun q1 => ?_)
  · show mjGo _ _ 13 _ _
    refine mjGo.run 2 (pc' := (bif decide (q = 0) then 40 else (bif decide (q = 1) then 50 else (bif decide (q = 2) then 60 else 70)))) (F' := ([some (.ref 0), some (.int w), some (.int q)], [], mjH I X)) (fun _ => rfl) ?_
    refine mjGo.br (fun q2 => ?_) (fun q2 => ?_)
    · show mjGo _ _ 40 _ _
      refine mjGo.run 4 (pc' := 48) (F' := ([some (.ref 0), some (.int w), some (.int q)], [.int w, .ref 2], mjH I X)) (fun _ => rfl) ?_
      refine mjGo.op (pc' := 49) (F' := ([some (.ref 0), some (.int w), some (.int q)], [.int (I 2 (w).toNatClampNeg)], mjH I X)) (o := mjiald 49) rfl (fun _ => mjald_i (n := 5) (by rw [h15] at q1; exact mjin_has h5 q1) (rfl) (rfl)) ?_
      have e9 : xpWork I w q = (I 2 (w).toNatClampNeg) := by unfold xpWork; rw [if_pos q1, if_pos q2]
      rw [e9]
      exact mjGo.ret 1 (fun _ => rfl) rfl
    refine mjGo.br (fun q3 => ?_) (fun q3 => ?_)
    · show mjGo _ _ 50 _ _
      refine mjGo.run 4 (pc' := 58) (F' := ([some (.ref 0), some (.int w), some (.int q)], [.int w, .ref 3], mjH I X)) (fun _ => rfl) ?_
      refine mjGo.op (pc' := 59) (F' := ([some (.ref 0), some (.int w), some (.int q)], [.int (I 3 (w).toNatClampNeg)], mjH I X)) (o := mjiald 59) rfl (fun _ => mjald_i (n := 5) (by rw [h15] at q1; exact mjin_has h5 q1) (rfl) (rfl)) ?_
      have e9 : xpWork I w q = (I 3 (w).toNatClampNeg) := by unfold xpWork; rw [if_pos q1, if_neg q2, if_pos q3]
      rw [e9]
      exact mjGo.ret 1 (fun _ => rfl) rfl
    refine mjGo.br (fun q4 => ?_) (fun q4 => ?_)
    · show mjGo _ _ 60 _ _
      refine mjGo.run 4 (pc' := 68) (F' := ([some (.ref 0), some (.int w), some (.int q)], [.int w, .ref 4], mjH I X)) (fun _ => rfl) ?_
      refine mjGo.op (pc' := 69) (F' := ([some (.ref 0), some (.int w), some (.int q)], [.int (I 4 (w).toNatClampNeg)], mjH I X)) (o := mjiald 69) rfl (fun _ => mjald_i (n := 5) (by rw [h15] at q1; exact mjin_has h5 q1) (rfl) (rfl)) ?_
      have e9 : xpWork I w q = (I 4 (w).toNatClampNeg) := by unfold xpWork; rw [if_pos q1, if_neg q2, if_neg q3, if_pos q4]
      rw [e9]
      exact mjGo.ret 1 (fun _ => rfl) rfl
    show mjGo _ _ 70 _ _
    have e9 : xpWork I w q = (-1) := by unfold xpWork; rw [if_pos q1, if_neg q2, if_neg q3, if_neg q4]
    rw [e9]
    exact mjGo.ret 2 (fun _ => rfl) rfl
  · show mjGo _ _ 11 _ _
    have e9 : xpWork I w q = (-1) := by unfold xpWork; rw [if_neg q1]
    rw [e9]
    exact mjGo.ret 2 (fun _ => rfl) rfl
def mpWork (I : Nat → Nat → Int32) (w q : Int32) : Int32 := if (mIsW I w) = 0 then (-1) else (if (mIn q 0 2) ≠ 0 then (if q ≠ 0 then (if q ≠ 1 then (I 47 (w).toNatClampNeg) else (I 46 (w).toNatClampNeg)) else (I 45 (w).toNatClampNeg)) else (-1))
theorem c_mpWork (d : Nat) {I : Nat → Nat → Int32} {X : MX} (w q : Int32) {n9 : Nat} (h5 : n9 ≤ 5) (h44 : I 44 0 = nI n9) : mjEv (d + 2) nyX12_work [.ref 43, .int w, .int q] (mjH I X) (.inl (some (.int (mpWork I w q)))) (mjH I X) := by
  refine mjEv.of ?_
  show mjGo (d + 2) nyX12_work 0 ([some (.ref 43), some (.int w), some (.int q)], [], mjH I X) _
  refine mjGo.run 2 (pc' := 2) (F' := ([some (.ref 43), some (.int w), some (.int q)], [.int w, .ref 43], mjH I X)) (fun _ => rfl) ?_
  refine mjGo.call (n := 2) (j := 137) (nx := 5) (o := some (.int (mIsW I w))) (h' := mjH I X) (fun _ => rfl) (c_mIsW d w) ?_
  show mjGo _ _ 5 ([some (.ref 43), some (.int w), some (.int q)], [.int (mIsW I w)], mjH I X) _
  refine mjGo.run 1 (pc' := (bif decide ((mIsW I w) = 0) then 17 else 8)) (F' := ([some (.ref 43), some (.int w), some (.int q)], [], mjH I X)) (fun _ => rfl) ?_
  refine mjGo.br (fun q1 => ?_) (fun q1 => ?_)
  · show mjGo _ _ 17 _ _
    have e9 : mpWork I w q = (-1) := by unfold mpWork; rw [if_pos q1]
    rw [e9]
    exact mjGo.ret 2 (fun _ => rfl) rfl
  · show mjGo _ _ 8 _ _
    refine mjGo.run 3 (pc' := 11) (F' := ([some (.ref 43), some (.int w), some (.int q)], [.int 2, .int 0, .int q], mjH I X)) (fun _ => rfl) ?_
    refine mjGo.call (n := 3) (j := 132) (nx := 14) (o := some (.int (mIn q 0 2))) (h' := mjH I X) (fun _ => rfl) (c_mIn (d + 1) q 0 2 _) ?_
    show mjGo _ _ 14 ([some (.ref 43), some (.int w), some (.int q)], [.int (mIn q 0 2)], mjH I X) _
    refine mjGo.run 1 (pc' := (bif decide ((mIn q 0 2) ≠ 0) then 19 else 17)) (F' := ([some (.ref 43), some (.int w), some (.int q)], [], mjH I X)) (fun _ => rfl) ?_
    refine mjGo.br (fun q2 => ?_) (fun q2 => ?_)
    · show mjGo _ _ 19 _ _
      refine mjGo.run 2 (pc' := (bif decide (q ≠ 0) then 32 else 23)) (F' := ([some (.ref 43), some (.int w), some (.int q)], [], mjH I X)) (fun _ => rfl) ?_
      refine mjGo.br (fun q3 => ?_) (fun q3 => ?_)
      · show mjGo _ _ 32 _ _
        refine mjGo.run 3 (pc' := (bif decide (q ≠ 1) then 46 else 37)) (F' := ([some (.ref 43), some (.int w), some (.int q)], [], mjH I X)) (fun _ => rfl) ?_
        refine mjGo.br (fun q4 => ?_) (fun q4 => ?_)
        · show mjGo _ _ 46 _ _
          refine mjGo.run 3 (pc' := 51) (F' := ([some (.ref 43), some (.int w), some (.int q)], [.int w, .ref 47], mjH I X)) (fun _ => rfl) ?_
          refine mjGo.op (pc' := 52) (F' := ([some (.ref 43), some (.int w), some (.int q)], [.int (I 47 (w).toNatClampNeg)], mjH I X)) (o := mjiald 52) rfl (fun _ => mjald_i (n := 5) (by rw [mIsW, h44] at q1; exact mjin_mIn h5 (by omega) q1) (rfl) (rfl)) ?_
          have e9 : mpWork I w q = (I 47 (w).toNatClampNeg) := by unfold mpWork; rw [if_neg q1, if_pos q2, if_pos q3, if_pos q4]
          rw [e9]
          exact mjGo.ret 1 (fun _ => rfl) rfl
        · show mjGo _ _ 37 _ _
          refine mjGo.run 3 (pc' := 42) (F' := ([some (.ref 43), some (.int w), some (.int q)], [.int w, .ref 46], mjH I X)) (fun _ => rfl) ?_
          refine mjGo.op (pc' := 43) (F' := ([some (.ref 43), some (.int w), some (.int q)], [.int (I 46 (w).toNatClampNeg)], mjH I X)) (o := mjiald 43) rfl (fun _ => mjald_i (n := 5) (by rw [mIsW, h44] at q1; exact mjin_mIn h5 (by omega) q1) (rfl) (rfl)) ?_
          have e9 : mpWork I w q = (I 46 (w).toNatClampNeg) := by unfold mpWork; rw [if_neg q1, if_pos q2, if_pos q3, if_neg q4]
          rw [e9]
          exact mjGo.ret 2 (fun _ => rfl) rfl
      · show mjGo _ _ 23 _ _
        refine mjGo.run 3 (pc' := 28) (F' := ([some (.ref 43), some (.int w), some (.int q)], [.int w, .ref 45], mjH I X)) (fun _ => rfl) ?_
        refine mjGo.op (pc' := 29) (F' := ([some (.ref 43), some (.int w), some (.int q)], [.int (I 45 (w).toNatClampNeg)], mjH I X)) (o := mjiald 29) rfl (fun _ => mjald_i (n := 5) (by rw [mIsW, h44] at q1; exact mjin_mIn h5 (by omega) q1) (rfl) (rfl)) ?_
        have e9 : mpWork I w q = (I 45 (w).toNatClampNeg) := by unfold mpWork; rw [if_neg q1, if_pos q2, if_neg q3]
        rw [e9]
        exact mjGo.ret 2 (fun _ => rfl) rfl
    · show mjGo _ _ 17 _ _
      have e9 : mpWork I w q = (-1) := by unfold mpWork; rw [if_neg q1, if_neg q2]
      rw [e9]
      exact mjGo.ret 2 (fun _ => rfl) rfl
theorem c_lkNo (d : Nat) {I : Nat → Nat → Int32} {X : MX} {k : Int32} {nl : Nat} (hn : nl ≤ 6) (h16 : I 1 6 = nI nl) (h : mIn k 0 (nI nl - 1) = 0) : mjEv d nyX11_lookerNumbered [.ref 0, .int k] (mjH I X) (.inl (some .null)) (mjH I X) := by
  refine mjEv.of ?_
  show mjGo d nyX11_lookerNumbered 0 ([some (.ref 0), some (.int k)], [], mjH I X) _
  refine mjGo.run 2 (pc' := (bif decide (k < 0) then 21 else 4)) (F' := ([some (.ref 0), some (.int k)], [], mjH I X)) (fun _ => rfl) ?_
  refine mjGo.br (fun q1 => ?_) (fun q1 => ?_)
  · show mjGo _ _ 21 _ _
    exact mjGo.ret 2 (fun _ => rfl) rfl
  · show mjGo _ _ 4 _ _
    refine mjGo.run 3 (pc' := (bif decide (6 ≤ k) then 21 else 10)) (F' := ([some (.ref 0), some (.int k)], [], mjH I X)) (fun _ => rfl) ?_
    refine mjGo.br (fun q2 => ?_) (fun q2 => ?_)
    · show mjGo _ _ 21 _ _
      exact mjGo.ret 2 (fun _ => rfl) rfl
    · show mjGo _ _ 10 _ _
      refine mjGo.run 5 (pc' := (bif decide (k < (I 1 6)) then 23 else 21)) (F' := ([some (.ref 0), some (.int k)], [], mjH I X)) (fun _ => rfl) ?_
      refine mjGo.br (fun q3 => ?_) (fun q3 => ?_)
      · show mjGo _ _ 23 _ _
        exfalso
        obtain ⟨j, hj, rfl⟩ := nI_of q1
        rw [h16, nI_ltI hj (by omega)] at q3
        rw [mIn_yes q3 (by omega)] at h
        exact absurd h (by decide)
      · show mjGo _ _ 21 _ _
        exact mjGo.ret 2 (fun _ => rfl) rfl
theorem c_lkYes (d : Nat) {I : Nat → Nat → Int32} {X : MX} {nl i a : Nat} (hn : nl ≤ 6) (h16 : I 1 6 = nI nl) (hi : i < nl) (hP : X.1 5 i = some a) : mjEv d nyX11_lookerNumbered [.ref 0, .int (nI i)] (mjH I X) (.inl (some (.ref a))) (mjH I X) := by
  refine mjEv.of ?_
  show mjGo d nyX11_lookerNumbered 0 ([some (.ref 0), some (.int (nI i))], [], mjH I X) _
  refine mjGo.run 2 (pc' := (bif decide ((nI i) < 0) then 21 else 4)) (F' := ([some (.ref 0), some (.int (nI i))], [], mjH I X)) (fun _ => rfl) ?_
  refine mjGo.br (fun q1 => ?_) (fun q1 => ?_)
  · show mjGo _ _ 21 _ _
    exact absurd q1 (nI_pos (by omega))
  · show mjGo _ _ 4 _ _
    refine mjGo.run 3 (pc' := (bif decide (6 ≤ (nI i)) then 21 else 10)) (F' := ([some (.ref 0), some (.int (nI i))], [], mjH I X)) (fun _ => rfl) ?_
    refine mjGo.br (fun q2 => ?_) (fun q2 => ?_)
    · show mjGo _ _ 21 _ _
      rw [show (6 : Int32) = nI 6 from rfl, nI_leI (by omega) (by omega)] at q2
      exact absurd q2 (by omega)
    · show mjGo _ _ 10 _ _
      refine mjGo.run 5 (pc' := (bif decide ((nI i) < (I 1 6)) then 23 else 21)) (F' := ([some (.ref 0), some (.int (nI i))], [], mjH I X)) (fun _ => rfl) ?_
      refine mjGo.br (fun q3 => ?_) (fun q3 => ?_)
      · show mjGo _ _ 23 _ _
        refine mjGo.run 4 (pc' := 31) (F' := ([some (.ref 0), some (.int (nI i))], [.int (nI i), .ref 5], mjH I X)) (fun _ => rfl) ?_
        refine mjGo.op (pc' := 32) (F' := ([some (.ref 0), some (.int (nI i))], [.ref a], mjH I X)) (o := mjaald 14 32) rfl (fun _ => aald_at (n := 6) (by omega) (by omega) rfl rfl hP) ?_
        exact mjGo.ret 1 (fun _ => rfl) rfl
      · show mjGo _ _ 21 _ _
        rw [h16, nI_ltI (by omega) (by omega)] at q3
        exact absurd hi q3
theorem v_kind {d a kd : Nat} {h : MH} (hT : mjT h a = (lkc kd, 0)) (hk : kd < 8) : ∃ j, mjlk (mjT h a).1 [(0, 12), (1, 18), (2, 23), (4, 46), (5, 48), (7, 58), (8, 61), (9, 64)] = some j ∧ mjEv d j [.ref a] h (.inl (some (.int (nI kd)))) h := by
  rw [hT]
  refine kd_cases (P := fun kd => ∃ j, mjlk (lkc kd) [(0, 12), (1, 18), (2, 23), (4, 46), (5, 48), (7, 58), (8, 61), (9, 64)] = some j ∧ mjEv d j [.ref a] h (.inl (some (.int (nI kd)))) h) hk ?_ ?_ ?_ ?_ ?_ ?_ ?_ ?_
  · exact ⟨_, rfl, c_xK4 d a h⟩
  · exact ⟨_, rfl, c_xK5 d a h⟩
  · exact ⟨_, rfl, c_xK2 d a h⟩
  · exact ⟨_, rfl, c_xK1 d a h⟩
  · exact ⟨_, rfl, c_xK0 d a h⟩
  · exact ⟨_, rfl, c_xK8 d a h⟩
  · exact ⟨_, rfl, c_xK9 d a h⟩
  · exact ⟨_, rfl, c_xK7 d a h⟩
def xpLookerN (I : Nat → Nat → Int32) (k q : Int32) : Int32 := (-1)
theorem c_xpLookerN (d : Nat) {I : Nat → Nat → Int32} {X : MX} (k q : Int32) {nl : Nat} (hn : nl ≤ 6) (h16 : I 1 6 = nI nl) (hno : mIn k 0 (nI nl - 1) = 0) : mjEv (d + 2) nyX11_looker [.ref 0, .int k, .int q] (mjH I X) (.inl (some (.int (xpLookerN I k q)))) (mjH I X) := by
  refine mjEv.of ?_
  show mjGo (d + 2) nyX11_looker 0 ([some (.ref 0), some (.int k), some (.int q), none], [], mjH I X) _
  refine mjGo.run 2 (pc' := 2) (F' := ([some (.ref 0), some (.int k), some (.int q), none], [.int k, .ref 0], mjH I X)) (fun _ => rfl) ?_
  refine mjGo.call (n := 2) (j := 91) (nx := 5) (o := some (.null)) (h' := mjH I X) (fun _ => rfl) (c_lkNo _ hn h16 hno) ?_
  show mjGo _ _ 5 ([some (.ref 0), some (.int k), some (.int q), none], [.null], mjH I X) _
  have e9 : xpLookerN I k q = (-1) := by unfold xpLookerN; rfl
  rw [e9]
  exact mjGo.ret 5 (fun _ => rfl) rfl
def xpLookerS (I : Nat → Nat → Int32) (i kd : Nat) (q : Int32) : Int32 := if q = 0 then (nI kd) else (if q = 1 then (I 49 i) else (if q = 2 then (I 51 i) else (if q = 3 then (mEarly (asOf kd) (I 49 i)) else (-1))))
theorem c_xpLookerS (d : Nat) {I : Nat → Nat → Int32} {X : MX} (i kd : Nat) (q : Int32) {nl a wn : Nat} (hn : nl ≤ 6) (h16 : I 1 6 = nI nl) (hi : i < nl) (hl : lkR I X 1 44 i a kd wn) : mjEv (d + 2) nyX11_looker [.ref 0, .int (nI i), .int q] (mjH I X) (.inl (some (.int (xpLookerS I i kd q)))) (mjH I X) := by
  obtain ⟨hP, hlk, l0, l1, l2, l3, l4, hwn, l5, hdr⟩ := hl
  refine mjEv.of ?_
  show mjGo (d + 2) nyX11_looker 0 ([some (.ref 0), some (.int (nI i)), some (.int q), none], [], mjH I X) _
  refine mjGo.run 2 (pc' := 2) (F' := ([some (.ref 0), some (.int (nI i)), some (.int q), none], [.int (nI i), .ref 0], mjH I X)) (fun _ => rfl) ?_
  refine mjGo.call (n := 2) (j := 91) (nx := 5) (o := some (.ref a)) (h' := mjH I X) (fun _ => rfl) (c_lkYes _ hn h16 hi hP) ?_
  show mjGo _ _ 5 ([some (.ref 0), some (.int (nI i)), some (.int q), none], [.ref a], mjH I X) _
  refine mjGo.run 5 (pc' := (bif decide (q = 0) then 44 else (bif decide (q = 1) then 49 else (bif decide (q = 2) then 54 else (bif decide (q = 3) then 59 else 68))))) (F' := ([some (.ref 0), some (.int (nI i)), some (.int q), some (.ref a)], [], mjH I X)) (fun _ => rfl) ?_
  refine mjGo.br (fun q1 => ?_) (fun q1 => ?_)
  · show mjGo _ _ 44 _ _
    refine mjGo.run 1 (pc' := 45) (F' := ([some (.ref 0), some (.int (nI i)), some (.int q), some (.ref a)], [.ref a], mjH I X)) (fun _ => rfl) ?_
    refine mjGo.callL (o := some (.int (nI kd))) (h' := mjH I X) (nx := 48) rfl rfl rfl (hlk.2.1) (v_kind ((mjH_T hlk.1).trans hlk.2.2.1) hlk.2.2.2) ?_
    show mjGo _ _ 48 ([some (.ref 0), some (.int (nI i)), some (.int q), some (.ref a)], [.int (nI kd)], mjH I X) _
    have e9 : xpLookerS I i kd q = (nI kd) := by unfold xpLookerS; rw [if_pos q1]
    rw [e9]
    exact mjGo.ret 1 (fun _ => rfl) rfl
  refine mjGo.br (fun q2 => ?_) (fun q2 => ?_)
  · show mjGo _ _ 49 _ _
    refine mjGo.run 1 (pc' := 50) (F' := ([some (.ref 0), some (.int (nI i)), some (.int q), some (.ref a)], [.ref a], mjH I X)) (fun _ => rfl) ?_
    refine mjGo.op (pc' := 53) (F' := ([some (.ref 0), some (.int (nI i)), some (.int q), some (.ref a)], [.int (I 49 i)], mjH I X)) (o := mjgetI [0, 1, 2, 4, 5, 7, 8, 9] 1 53) rfl (fun _ => lkK_get hlk l1) ?_
    have e9 : xpLookerS I i kd q = (I 49 i) := by unfold xpLookerS; rw [if_neg q1, if_pos q2]
    rw [e9]
    exact mjGo.ret 1 (fun _ => rfl) rfl
  refine mjGo.br (fun q3 => ?_) (fun q3 => ?_)
  · show mjGo _ _ 54 _ _
    refine mjGo.run 1 (pc' := 55) (F' := ([some (.ref 0), some (.int (nI i)), some (.int q), some (.ref a)], [.ref a], mjH I X)) (fun _ => rfl) ?_
    refine mjGo.op (pc' := 58) (F' := ([some (.ref 0), some (.int (nI i)), some (.int q), some (.ref a)], [.int (I 51 i)], mjH I X)) (o := mjgetI [0, 1, 2, 4, 5, 7, 8, 9] 3 58) rfl (fun _ => lkK_get hlk (l3.trans l4.symm)) ?_
    have e9 : xpLookerS I i kd q = (I 51 i) := by unfold xpLookerS; rw [if_neg q1, if_neg q2, if_pos q3]
    rw [e9]
    exact mjGo.ret 1 (fun _ => rfl) rfl
  refine mjGo.br (fun q4 => ?_) (fun q4 => ?_)
  · show mjGo _ _ 59 _ _
    refine mjGo.run 2 (pc' := 61) (F' := ([some (.ref 0), some (.int (nI i)), some (.int q), some (.ref a)], [.ref a, .ref a], mjH I X)) (fun _ => rfl) ?_
    refine mjGo.op (pc' := 64) (F' := ([some (.ref 0), some (.int (nI i)), some (.int q), some (.ref a)], [.int (I 49 i), .ref a], mjH I X)) (o := mjgetI [0, 1, 2, 4, 5, 7, 8, 9] 1 64) rfl (fun _ => lkK_get hlk l1) ?_
    refine mjGo.callL (o := some (.int (mEarly (asOf kd) (I 49 i)))) (h' := mjH I X) (nx := 67) rfl rfl rfl (hlk.2.1) (v_early ((mjH_T hlk.1).trans hlk.2.2.1) hlk.2.2.2) ?_
    show mjGo _ _ 67 ([some (.ref 0), some (.int (nI i)), some (.int q), some (.ref a)], [.int (mEarly (asOf kd) (I 49 i))], mjH I X) _
    have e9 : xpLookerS I i kd q = (mEarly (asOf kd) (I 49 i)) := by unfold xpLookerS; rw [if_neg q1, if_neg q2, if_neg q3, if_pos q4]
    rw [e9]
    exact mjGo.ret 1 (fun _ => rfl) rfl
  show mjGo _ _ 68 _ _
  have e9 : xpLookerS I i kd q = (-1) := by unfold xpLookerS; rw [if_neg q1, if_neg q2, if_neg q3, if_neg q4]
  rw [e9]
  exact mjGo.ret 2 (fun _ => rfl) rfl
def xpDriftN (I : Nat → Nat → Int32) (k : Int32) : Int32 := (-1000000001)
theorem c_xpDriftN (d : Nat) {I : Nat → Nat → Int32} {X : MX} (k : Int32) {nl : Nat} (hn : nl ≤ 6) (h16 : I 1 6 = nI nl) (hno : mIn k 0 (nI nl - 1) = 0) : mjEv (d + 2) nyX11_drift [.ref 0, .int k] (mjH I X) (.inl (some (.int (xpDriftN I k)))) (mjH I X) := by
  refine mjEv.of ?_
  show mjGo (d + 2) nyX11_drift 0 ([some (.ref 0), some (.int k), none], [], mjH I X) _
  refine mjGo.run 2 (pc' := 2) (F' := ([some (.ref 0), some (.int k), none], [.int k, .ref 0], mjH I X)) (fun _ => rfl) ?_
  refine mjGo.call (n := 2) (j := 91) (nx := 5) (o := some (.null)) (h' := mjH I X) (fun _ => rfl) (c_lkNo _ hn h16 hno) ?_
  show mjGo _ _ 5 ([some (.ref 0), some (.int k), none], [.null], mjH I X) _
  have e9 : xpDriftN I k = (-1000000001) := by unfold xpDriftN; rfl
  rw [e9]
  exact mjGo.ret 6 (fun _ => rfl) rfl
def xpDriftS (I : Nat → Nat → Int32) (i kd : Nat) : Int32 := (I 50 i)
theorem c_xpDriftS (d : Nat) {I : Nat → Nat → Int32} {X : MX} (i kd : Nat) {nl a wn : Nat} (hn : nl ≤ 6) (h16 : I 1 6 = nI nl) (hi : i < nl) (hl : lkR I X 1 44 i a kd wn) : mjEv (d + 2) nyX11_drift [.ref 0, .int (nI i)] (mjH I X) (.inl (some (.int (xpDriftS I i kd)))) (mjH I X) := by
  obtain ⟨hP, hlk, l0, l1, l2, l3, l4, hwn, l5, hdr⟩ := hl
  refine mjEv.of ?_
  show mjGo (d + 2) nyX11_drift 0 ([some (.ref 0), some (.int (nI i)), none], [], mjH I X) _
  refine mjGo.run 2 (pc' := 2) (F' := ([some (.ref 0), some (.int (nI i)), none], [.int (nI i), .ref 0], mjH I X)) (fun _ => rfl) ?_
  refine mjGo.call (n := 2) (j := 91) (nx := 5) (o := some (.ref a)) (h' := mjH I X) (fun _ => rfl) (c_lkYes _ hn h16 hi hP) ?_
  show mjGo _ _ 5 ([some (.ref 0), some (.int (nI i)), none], [.ref a], mjH I X) _
  refine mjGo.run 4 (pc' := 16) (F' := ([some (.ref 0), some (.int (nI i)), some (.ref a)], [.ref a], mjH I X)) (fun _ => rfl) ?_
  refine mjGo.op (pc' := 19) (F' := ([some (.ref 0), some (.int (nI i)), some (.ref a)], [.int (I 50 i)], mjH I X)) (o := mjgetI [0, 1, 2, 4, 5, 7, 8, 9] 2 19) rfl (fun _ => lkK_get hlk l2) ?_
  have e9 : xpDriftS I i kd = (I 50 i) := by unfold xpDriftS; rfl
  rw [e9]
  exact mjGo.ret 1 (fun _ => rfl) rfl
def xpThinksN (I : Nat → Nat → Int32) (k lo mi : Int32) : Int32 := (-1000000001)
theorem c_xpThinksN (d : Nat) {I : Nat → Nat → Int32} {X : MX} (k lo mi : Int32) {nl : Nat} (hn : nl ≤ 6) (h16 : I 1 6 = nI nl) (hno : mIn k 0 (nI nl - 1) = 0) : mjEv (d + 2) nyX11_thinks [.ref 0, .int k, .int lo, .int mi] (mjH I X) (.inl (some (.int (xpThinksN I k lo mi)))) (mjH I X) := by
  refine mjEv.of ?_
  show mjGo (d + 2) nyX11_thinks 0 ([some (.ref 0), some (.int k), some (.int lo), some (.int mi), none], [], mjH I X) _
  refine mjGo.run 2 (pc' := 2) (F' := ([some (.ref 0), some (.int k), some (.int lo), some (.int mi), none], [.int k, .ref 0], mjH I X)) (fun _ => rfl) ?_
  refine mjGo.call (n := 2) (j := 91) (nx := 5) (o := some (.null)) (h' := mjH I X) (fun _ => rfl) (c_lkNo _ hn h16 hno) ?_
  show mjGo _ _ 5 ([some (.ref 0), some (.int k), some (.int lo), some (.int mi), none], [.null], mjH I X) _
  have e9 : xpThinksN I k lo mi = (-1000000001) := by unfold xpThinksN; rfl
  rw [e9]
  exact mjGo.ret 5 (fun _ => rfl) rfl
def xpThinksS (I : Nat → Nat → Int32) (i kd : Nat) (lo mi : Int32) : Int32 := if (xMin lo) = 0 then (-1000000001) else (if (xMin mi) = 0 then (-1000000001) else (if lo ≤ mi then (xTho (I 50 i) lo mi) else (-1000000001)))
theorem c_xpThinksS (d : Nat) {I : Nat → Nat → Int32} {X : MX} (i kd : Nat) (lo mi : Int32) {nl a wn : Nat} (hn : nl ≤ 6) (h16 : I 1 6 = nI nl) (hi : i < nl) (hl : lkR I X 1 44 i a kd wn) : mjEv (d + 2) nyX11_thinks [.ref 0, .int (nI i), .int lo, .int mi] (mjH I X) (.inl (some (.int (xpThinksS I i kd lo mi)))) (mjH I X) := by
  obtain ⟨hP, hlk, l0, l1, l2, l3, l4, hwn, l5, hdr⟩ := hl
  refine mjEv.of ?_
  show mjGo (d + 2) nyX11_thinks 0 ([some (.ref 0), some (.int (nI i)), some (.int lo), some (.int mi), none], [], mjH I X) _
  refine mjGo.run 2 (pc' := 2) (F' := ([some (.ref 0), some (.int (nI i)), some (.int lo), some (.int mi), none], [.int (nI i), .ref 0], mjH I X)) (fun _ => rfl) ?_
  refine mjGo.call (n := 2) (j := 91) (nx := 5) (o := some (.ref a)) (h' := mjH I X) (fun _ => rfl) (c_lkYes _ hn h16 hi hP) ?_
  show mjGo _ _ 5 ([some (.ref 0), some (.int (nI i)), some (.int lo), some (.int mi), none], [.ref a], mjH I X) _
  refine mjGo.run 4 (pc' := 13) (F' := ([some (.ref 0), some (.int (nI i)), some (.int lo), some (.int mi), some (.ref a)], [.int lo], mjH I X)) (fun _ => rfl) ?_
  refine mjGo.call (n := 1) (j := 69) (nx := 16) (o := some (.int (xMin lo))) (h' := mjH I X) (fun _ => rfl) (c_xMin (d + 1) lo _) ?_
  show mjGo _ _ 16 ([some (.ref 0), some (.int (nI i)), some (.int lo), some (.int mi), some (.ref a)], [.int (xMin lo)], mjH I X) _
  refine mjGo.run 1 (pc' := (bif decide ((xMin lo) = 0) then 31 else 19)) (F' := ([some (.ref 0), some (.int (nI i)), some (.int lo), some (.int mi), some (.ref a)], [], mjH I X)) (fun _ => rfl) ?_
  refine mjGo.br (fun q1 => ?_) (fun q1 => ?_)
  · show mjGo _ _ 31 _ _
    have e9 : xpThinksS I i kd lo mi = (-1000000001) := by unfold xpThinksS; rw [if_pos q1]
    rw [e9]
    exact mjGo.ret 2 (fun _ => rfl) rfl
  · show mjGo _ _ 19 _ _
    refine mjGo.run 1 (pc' := 20) (F' := ([some (.ref 0), some (.int (nI i)), some (.int lo), some (.int mi), some (.ref a)], [.int mi], mjH I X)) (fun _ => rfl) ?_
    refine mjGo.call (n := 1) (j := 69) (nx := 23) (o := some (.int (xMin mi))) (h' := mjH I X) (fun _ => rfl) (c_xMin (d + 1) mi _) ?_
    show mjGo _ _ 23 ([some (.ref 0), some (.int (nI i)), some (.int lo), some (.int mi), some (.ref a)], [.int (xMin mi)], mjH I X) _
    refine mjGo.run 1 (pc' := (bif decide ((xMin mi) = 0) then 31 else 26)) (F' := ([some (.ref 0), some (.int (nI i)), some (.int lo), some (.int mi), some (.ref a)], [], mjH I X)) (fun _ => rfl) ?_
    refine mjGo.br (fun q2 => ?_) (fun q2 => ?_)
    · show mjGo _ _ 31 _ _
      have e9 : xpThinksS I i kd lo mi = (-1000000001) := by unfold xpThinksS; rw [if_neg q1, if_pos q2]
      rw [e9]
      exact mjGo.ret 2 (fun _ => rfl) rfl
    · show mjGo _ _ 26 _ _
      refine mjGo.run 3 (pc' := (bif decide (lo ≤ mi) then 34 else 31)) (F' := ([some (.ref 0), some (.int (nI i)), some (.int lo), some (.int mi), some (.ref a)], [], mjH I X)) (fun _ => rfl) ?_
      refine mjGo.br (fun q3 => ?_) (fun q3 => ?_)
      · show mjGo _ _ 34 _ _
        refine mjGo.run 1 (pc' := 36) (F' := ([some (.ref 0), some (.int (nI i)), some (.int lo), some (.int mi), some (.ref a)], [.ref a], mjH I X)) (fun _ => rfl) ?_
        refine mjGo.op (pc' := 39) (F' := ([some (.ref 0), some (.int (nI i)), some (.int lo), some (.int mi), some (.ref a)], [.int (I 50 i)], mjH I X)) (o := mjgetI [0, 1, 2, 4, 5, 7, 8, 9] 2 39) rfl (fun _ => lkK_get hlk l2) ?_
        refine mjGo.run 2 (pc' := 41) (F' := ([some (.ref 0), some (.int (nI i)), some (.int lo), some (.int mi), some (.ref a)], [.int mi, .int lo, .int (I 50 i)], mjH I X)) (fun _ => rfl) ?_
        refine mjGo.call (n := 3) (j := 30) (nx := 44) (o := some (.int (xTho (I 50 i) lo mi))) (h' := mjH I X) (fun _ => rfl) (c_xTho (d + 1) (I 50 i) lo mi _) ?_
        show mjGo _ _ 44 ([some (.ref 0), some (.int (nI i)), some (.int lo), some (.int mi), some (.ref a)], [.int (xTho (I 50 i) lo mi)], mjH I X) _
        have e9 : xpThinksS I i kd lo mi = (xTho (I 50 i) lo mi) := by unfold xpThinksS; rw [if_neg q1, if_neg q2, if_pos q3]
        rw [e9]
        exact mjGo.ret 1 (fun _ => rfl) rfl
      · show mjGo _ _ 31 _ _
        have e9 : xpThinksS I i kd lo mi = (-1000000001) := by unfold xpThinksS; rw [if_neg q1, if_neg q2, if_neg q3]
        rw [e9]
        exact mjGo.ret 2 (fun _ => rfl) rfl
def mpLooker (I : Nat → Nat → Int32) (k q : Int32) : Int32 := if (mIsL I k) = 0 then (-1) else (if (mIn q 0 3) ≠ 0 then (if q = 0 then (I 48 (k).toNatClampNeg) else (if q = 1 then (I 49 (k).toNatClampNeg) else (if q = 2 then (I 51 (k).toNatClampNeg) else (mEarly (I 48 (k).toNatClampNeg) (I 49 (k).toNatClampNeg))))) else (-1))
theorem c_mpLooker (d : Nat) {I : Nat → Nat → Int32} {X : MX} (k q : Int32) {nl : Nat} (hn : nl ≤ 6) (h44 : I 44 1 = nI nl) : mjEv (d + 2) nyX12_looker [.ref 43, .int k, .int q] (mjH I X) (.inl (some (.int (mpLooker I k q)))) (mjH I X) := by
  refine mjEv.of ?_
  show mjGo (d + 2) nyX12_looker 0 ([some (.ref 43), some (.int k), some (.int q)], [], mjH I X) _
  refine mjGo.run 2 (pc' := 2) (F' := ([some (.ref 43), some (.int k), some (.int q)], [.int k, .ref 43], mjH I X)) (fun _ => rfl) ?_
  refine mjGo.call (n := 2) (j := 138) (nx := 5) (o := some (.int (mIsL I k))) (h' := mjH I X) (fun _ => rfl) (c_mIsL d k) ?_
  show mjGo _ _ 5 ([some (.ref 43), some (.int k), some (.int q)], [.int (mIsL I k)], mjH I X) _
  refine mjGo.run 1 (pc' := (bif decide ((mIsL I k) = 0) then 17 else 8)) (F' := ([some (.ref 43), some (.int k), some (.int q)], [], mjH I X)) (fun _ => rfl) ?_
  refine mjGo.br (fun q1 => ?_) (fun q1 => ?_)
  · show mjGo _ _ 17 _ _
    have e9 : mpLooker I k q = (-1) := by unfold mpLooker; rw [if_pos q1]
    rw [e9]
    exact mjGo.ret 2 (fun _ => rfl) rfl
  · show mjGo _ _ 8 _ _
    refine mjGo.run 3 (pc' := 11) (F' := ([some (.ref 43), some (.int k), some (.int q)], [.int 3, .int 0, .int q], mjH I X)) (fun _ => rfl) ?_
    refine mjGo.call (n := 3) (j := 132) (nx := 14) (o := some (.int (mIn q 0 3))) (h' := mjH I X) (fun _ => rfl) (c_mIn (d + 1) q 0 3 _) ?_
    show mjGo _ _ 14 ([some (.ref 43), some (.int k), some (.int q)], [.int (mIn q 0 3)], mjH I X) _
    refine mjGo.run 1 (pc' := (bif decide ((mIn q 0 3) ≠ 0) then 19 else 17)) (F' := ([some (.ref 43), some (.int k), some (.int q)], [], mjH I X)) (fun _ => rfl) ?_
    refine mjGo.br (fun q2 => ?_) (fun q2 => ?_)
    · show mjGo _ _ 19 _ _
      refine mjGo.run 2 (pc' := (bif decide (q = 0) then 48 else (bif decide (q = 1) then 55 else (bif decide (q = 2) then 62 else 69)))) (F' := ([some (.ref 43), some (.int k), some (.int q)], [], mjH I X)) (fun _ => rfl) ?_
      refine mjGo.br (fun q3 => ?_) (fun q3 => ?_)
      · show mjGo _ _ 48 _ _
        refine mjGo.run 3 (pc' := 53) (F' := ([some (.ref 43), some (.int k), some (.int q)], [.int k, .ref 48], mjH I X)) (fun _ => rfl) ?_
        refine mjGo.op (pc' := 54) (F' := ([some (.ref 43), some (.int k), some (.int q)], [.int (I 48 (k).toNatClampNeg)], mjH I X)) (o := mjiald 54) rfl (fun _ => mjald_i (n := 6) (by rw [mIsL, h44] at q1; exact mjin_mIn hn (by omega) q1) (rfl) (rfl)) ?_
        have e9 : mpLooker I k q = (I 48 (k).toNatClampNeg) := by unfold mpLooker; rw [if_neg q1, if_pos q2, if_pos q3]
        rw [e9]
        exact mjGo.ret 1 (fun _ => rfl) rfl
      refine mjGo.br (fun q4 => ?_) (fun q4 => ?_)
      · show mjGo _ _ 55 _ _
        refine mjGo.run 3 (pc' := 60) (F' := ([some (.ref 43), some (.int k), some (.int q)], [.int k, .ref 49], mjH I X)) (fun _ => rfl) ?_
        refine mjGo.op (pc' := 61) (F' := ([some (.ref 43), some (.int k), some (.int q)], [.int (I 49 (k).toNatClampNeg)], mjH I X)) (o := mjiald 61) rfl (fun _ => mjald_i (n := 6) (by rw [mIsL, h44] at q1; exact mjin_mIn hn (by omega) q1) (rfl) (rfl)) ?_
        have e9 : mpLooker I k q = (I 49 (k).toNatClampNeg) := by unfold mpLooker; rw [if_neg q1, if_pos q2, if_neg q3, if_pos q4]
        rw [e9]
        exact mjGo.ret 1 (fun _ => rfl) rfl
      refine mjGo.br (fun q5 => ?_) (fun q5 => ?_)
      · show mjGo _ _ 62 _ _
        refine mjGo.run 3 (pc' := 67) (F' := ([some (.ref 43), some (.int k), some (.int q)], [.int k, .ref 51], mjH I X)) (fun _ => rfl) ?_
        refine mjGo.op (pc' := 68) (F' := ([some (.ref 43), some (.int k), some (.int q)], [.int (I 51 (k).toNatClampNeg)], mjH I X)) (o := mjiald 68) rfl (fun _ => mjald_i (n := 6) (by rw [mIsL, h44] at q1; exact mjin_mIn hn (by omega) q1) (rfl) (rfl)) ?_
        have e9 : mpLooker I k q = (I 51 (k).toNatClampNeg) := by unfold mpLooker; rw [if_neg q1, if_pos q2, if_neg q3, if_neg q4, if_pos q5]
        rw [e9]
        exact mjGo.ret 1 (fun _ => rfl) rfl
      show mjGo _ _ 69 _ _
      refine mjGo.run 3 (pc' := 74) (F' := ([some (.ref 43), some (.int k), some (.int q)], [.int k, .ref 48], mjH I X)) (fun _ => rfl) ?_
      refine mjGo.op (pc' := 75) (F' := ([some (.ref 43), some (.int k), some (.int q)], [.int (I 48 (k).toNatClampNeg)], mjH I X)) (o := mjiald 75) rfl (fun _ => mjald_i (n := 6) (by rw [mIsL, h44] at q1; exact mjin_mIn hn (by omega) q1) (rfl) (rfl)) ?_
      refine mjGo.run 3 (pc' := 80) (F' := ([some (.ref 43), some (.int k), some (.int q)], [.int k, .ref 49, .int (I 48 (k).toNatClampNeg)], mjH I X)) (fun _ => rfl) ?_
      refine mjGo.op (pc' := 81) (F' := ([some (.ref 43), some (.int k), some (.int q)], [.int (I 49 (k).toNatClampNeg), .int (I 48 (k).toNatClampNeg)], mjH I X)) (o := mjiald 81) rfl (fun _ => mjald_i (n := 6) (by rw [mIsL, h44] at q1; exact mjin_mIn hn (by omega) q1) (rfl) (rfl)) ?_
      refine mjGo.call (n := 2) (j := 143) (nx := 84) (o := some (.int (mEarly (I 48 (k).toNatClampNeg) (I 49 (k).toNatClampNeg)))) (h' := mjH I X) (fun _ => rfl) (c_mEarly (d + 1) (I 48 (k).toNatClampNeg) (I 49 (k).toNatClampNeg) _) ?_
      show mjGo _ _ 84 ([some (.ref 43), some (.int k), some (.int q)], [.int (mEarly (I 48 (k).toNatClampNeg) (I 49 (k).toNatClampNeg))], mjH I X) _
      have e9 : mpLooker I k q = (mEarly (I 48 (k).toNatClampNeg) (I 49 (k).toNatClampNeg)) := by unfold mpLooker; rw [if_neg q1, if_pos q2, if_neg q3, if_neg q4, if_neg q5]
      rw [e9]
      exact mjGo.ret 1 (fun _ => rfl) rfl
    · show mjGo _ _ 17 _ _
      have e9 : mpLooker I k q = (-1) := by unfold mpLooker; rw [if_neg q1, if_neg q2]
      rw [e9]
      exact mjGo.ret 2 (fun _ => rfl) rfl
def mpDrift (I : Nat → Nat → Int32) (k : Int32) : Int32 := if (mIsL I k) = 0 then (-1000000001) else (I 50 (k).toNatClampNeg)
theorem c_mpDrift (d : Nat) {I : Nat → Nat → Int32} {X : MX} (k : Int32) {nl : Nat} (hn : nl ≤ 6) (h44 : I 44 1 = nI nl) : mjEv (d + 2) nyX12_drift [.ref 43, .int k] (mjH I X) (.inl (some (.int (mpDrift I k)))) (mjH I X) := by
  refine mjEv.of ?_
  show mjGo (d + 2) nyX12_drift 0 ([some (.ref 43), some (.int k)], [], mjH I X) _
  refine mjGo.run 2 (pc' := 2) (F' := ([some (.ref 43), some (.int k)], [.int k, .ref 43], mjH I X)) (fun _ => rfl) ?_
  refine mjGo.call (n := 2) (j := 138) (nx := 5) (o := some (.int (mIsL I k))) (h' := mjH I X) (fun _ => rfl) (c_mIsL d k) ?_
  show mjGo _ _ 5 ([some (.ref 43), some (.int k)], [.int (mIsL I k)], mjH I X) _
  refine mjGo.run 1 (pc' := (bif decide ((mIsL I k) = 0) then 17 else 8)) (F' := ([some (.ref 43), some (.int k)], [], mjH I X)) (fun _ => rfl) ?_
  refine mjGo.br (fun q1 => ?_) (fun q1 => ?_)
  · show mjGo _ _ 17 _ _
    have e9 : mpDrift I k = (-1000000001) := by unfold mpDrift; rw [if_pos q1]
    rw [e9]
    exact mjGo.ret 2 (fun _ => rfl) rfl
  · show mjGo _ _ 8 _ _
    refine mjGo.run 3 (pc' := 13) (F' := ([some (.ref 43), some (.int k)], [.int k, .ref 50], mjH I X)) (fun _ => rfl) ?_
    refine mjGo.op (pc' := 14) (F' := ([some (.ref 43), some (.int k)], [.int (I 50 (k).toNatClampNeg)], mjH I X)) (o := mjiald 14) rfl (fun _ => mjald_i (n := 6) (by rw [mIsL, h44] at q1; exact mjin_mIn hn (by omega) q1) (rfl) (rfl)) ?_
    have e9 : mpDrift I k = (I 50 (k).toNatClampNeg) := by unfold mpDrift; rw [if_neg q1]
    rw [e9]
    exact mjGo.ret 2 (fun _ => rfl) rfl
def mpThinks (I : Nat → Nat → Int32) (k lo mi : Int32) : Int32 := if (mIsL I k) = 0 then (-1000000001) else (if (mMin lo) = 0 then (-1000000001) else (if (mMin mi) = 0 then (-1000000001) else (if mi < lo then (-1000000001) else (mTho (I 50 (k).toNatClampNeg) lo mi))))
theorem c_mpThinks (d : Nat) {I : Nat → Nat → Int32} {X : MX} (k lo mi : Int32) {nl : Nat} (hn : nl ≤ 6) (h44 : I 44 1 = nI nl) : mjEv (d + 2) nyX12_thinks [.ref 43, .int k, .int lo, .int mi] (mjH I X) (.inl (some (.int (mpThinks I k lo mi)))) (mjH I X) := by
  refine mjEv.of ?_
  show mjGo (d + 2) nyX12_thinks 0 ([some (.ref 43), some (.int k), some (.int lo), some (.int mi)], [], mjH I X) _
  refine mjGo.run 2 (pc' := 2) (F' := ([some (.ref 43), some (.int k), some (.int lo), some (.int mi)], [.int k, .ref 43], mjH I X)) (fun _ => rfl) ?_
  refine mjGo.call (n := 2) (j := 138) (nx := 5) (o := some (.int (mIsL I k))) (h' := mjH I X) (fun _ => rfl) (c_mIsL d k) ?_
  show mjGo _ _ 5 ([some (.ref 43), some (.int k), some (.int lo), some (.int mi)], [.int (mIsL I k)], mjH I X) _
  refine mjGo.run 1 (pc' := (bif decide ((mIsL I k) = 0) then 41 else 8)) (F' := ([some (.ref 43), some (.int k), some (.int lo), some (.int mi)], [], mjH I X)) (fun _ => rfl) ?_
  refine mjGo.br (fun q1 => ?_) (fun q1 => ?_)
  · show mjGo _ _ 41 _ _
    have e9 : mpThinks I k lo mi = (-1000000001) := by unfold mpThinks; rw [if_pos q1]
    rw [e9]
    exact mjGo.ret 2 (fun _ => rfl) rfl
  · show mjGo _ _ 8 _ _
    refine mjGo.run 1 (pc' := 9) (F' := ([some (.ref 43), some (.int k), some (.int lo), some (.int mi)], [.int lo], mjH I X)) (fun _ => rfl) ?_
    refine mjGo.call (n := 1) (j := 133) (nx := 12) (o := some (.int (mMin lo))) (h' := mjH I X) (fun _ => rfl) (c_mMin d lo _) ?_
    show mjGo _ _ 12 ([some (.ref 43), some (.int k), some (.int lo), some (.int mi)], [.int (mMin lo)], mjH I X) _
    refine mjGo.run 1 (pc' := (bif decide ((mMin lo) = 0) then 41 else 15)) (F' := ([some (.ref 43), some (.int k), some (.int lo), some (.int mi)], [], mjH I X)) (fun _ => rfl) ?_
    refine mjGo.br (fun q2 => ?_) (fun q2 => ?_)
    · show mjGo _ _ 41 _ _
      have e9 : mpThinks I k lo mi = (-1000000001) := by unfold mpThinks; rw [if_neg q1, if_pos q2]
      rw [e9]
      exact mjGo.ret 2 (fun _ => rfl) rfl
    · show mjGo _ _ 15 _ _
      refine mjGo.run 1 (pc' := 16) (F' := ([some (.ref 43), some (.int k), some (.int lo), some (.int mi)], [.int mi], mjH I X)) (fun _ => rfl) ?_
      refine mjGo.call (n := 1) (j := 133) (nx := 19) (o := some (.int (mMin mi))) (h' := mjH I X) (fun _ => rfl) (c_mMin d mi _) ?_
      show mjGo _ _ 19 ([some (.ref 43), some (.int k), some (.int lo), some (.int mi)], [.int (mMin mi)], mjH I X) _
      refine mjGo.run 1 (pc' := (bif decide ((mMin mi) = 0) then 41 else 22)) (F' := ([some (.ref 43), some (.int k), some (.int lo), some (.int mi)], [], mjH I X)) (fun _ => rfl) ?_
      refine mjGo.br (fun q3 => ?_) (fun q3 => ?_)
      · show mjGo _ _ 41 _ _
        have e9 : mpThinks I k lo mi = (-1000000001) := by unfold mpThinks; rw [if_neg q1, if_neg q2, if_pos q3]
        rw [e9]
        exact mjGo.ret 2 (fun _ => rfl) rfl
      · show mjGo _ _ 22 _ _
        refine mjGo.run 3 (pc' := (bif decide (mi < lo) then 41 else 27)) (F' := ([some (.ref 43), some (.int k), some (.int lo), some (.int mi)], [], mjH I X)) (fun _ => rfl) ?_
        refine mjGo.br (fun q4 => ?_) (fun q4 => ?_)
        · show mjGo _ _ 41 _ _
          have e9 : mpThinks I k lo mi = (-1000000001) := by unfold mpThinks; rw [if_neg q1, if_neg q2, if_neg q3, if_pos q4]
          rw [e9]
          exact mjGo.ret 2 (fun _ => rfl) rfl
        · show mjGo _ _ 27 _ _
          refine mjGo.run 3 (pc' := 32) (F' := ([some (.ref 43), some (.int k), some (.int lo), some (.int mi)], [.int k, .ref 50], mjH I X)) (fun _ => rfl) ?_
          refine mjGo.op (pc' := 33) (F' := ([some (.ref 43), some (.int k), some (.int lo), some (.int mi)], [.int (I 50 (k).toNatClampNeg)], mjH I X)) (o := mjiald 33) rfl (fun _ => mjald_i (n := 6) (by rw [mIsL, h44] at q1; exact mjin_mIn hn (by omega) q1) (rfl) (rfl)) ?_
          refine mjGo.run 2 (pc' := 35) (F' := ([some (.ref 43), some (.int k), some (.int lo), some (.int mi)], [.int mi, .int lo, .int (I 50 (k).toNatClampNeg)], mjH I X)) (fun _ => rfl) ?_
          refine mjGo.call (n := 3) (j := 146) (nx := 38) (o := some (.int (mTho (I 50 (k).toNatClampNeg) lo mi))) (h' := mjH I X) (fun _ => rfl) (c_mTho (d + 1) (I 50 (k).toNatClampNeg) lo mi _) ?_
          show mjGo _ _ 38 ([some (.ref 43), some (.int k), some (.int lo), some (.int mi)], [.int (mTho (I 50 (k).toNatClampNeg) lo mi)], mjH I X) _
          have e9 : mpThinks I k lo mi = (mTho (I 50 (k).toNatClampNeg) lo mi) := by unfold mpThinks; rw [if_neg q1, if_neg q2, if_neg q3, if_neg q4]
          rw [e9]
          exact mjGo.ret 2 (fun _ => rfl) rfl
theorem q_cases (n : Nat) (hn : n < 1000) (q : Int32) : (∃ j, j ≤ n ∧ q = nI j ∧ mIn q 0 (nI n) = 1) ∨ (mIn q 0 (nI n) = 0 ∧ ∀ j, j ≤ n → q ≠ nI j) := by
  by_cases h : mIn q 0 (nI n) = 0
  · refine Or.inr ⟨h, fun j hj e => ?_⟩
    subst e
    unfold mIn at h
    rw [if_neg (nI_pos (by omega)), if_neg (by rw [nI_ltI (by omega) (by omega)]; omega)] at h
    exact absurd h (by decide)
  · obtain ⟨j, hj, e⟩ := mIn_n (by omega) h
    exact Or.inl ⟨j, hj, e, (z_mIn q 0 (nI n)).resolve_left h⟩
theorem early_as {kd : Nat} {f : Int32} (h : kd < 8) : mEarly (asOf kd) f = mEarly (nI kd) f := kd_cases (P := fun kd => mEarly (asOf kd) f = mEarly (nI kd) f) h rfl rfl rfl rfl rfl rfl rfl rfl
theorem k_work (d : Nat) (w q : Int32) : CALL (d + 12) nyX11_work nyX12_work [.ref 0, .int w, .int q] [.ref 43, .int w, .int q] := CALL.pure2 fun I X hR => by
  obtain ⟨n9, h5, h15, h44⟩ := tR_has hR
  obtain ⟨r2, r3, r4, r6⟩ := tR_rows hR
  refine ⟨_, _, c_xpWork (d + 11) w q h5 h15, c_mpWork (d + 10) w q h5 h44, ?_⟩
  unfold xpWork mpWork mIsW
  rw [h15, h44, r2, r3, r4, has_eq h5]
  by_cases h : mIn w 0 (nI n9 - 1) = 0
  · rw [if_neg (fun q => q h), if_pos h]
  · rw [if_pos h, if_neg h]
    rcases q_cases 2 (by omega) q with ⟨j, hj, rfl, e⟩ | ⟨e, hj⟩
    · match j, hj with
      | 0, _ => rfl
      | 1, _ => rfl
      | 2, _ => rfl
    · rw [if_neg (show ¬ q = 0 from hj 0 (by omega)), if_neg (show ¬ q = 1 from hj 1 (by omega)), if_neg (show ¬ q = 2 from hj 2 (by omega)), if_neg (show ¬ mIn q 0 2 ≠ 0 from fun q => q e)]
theorem k_looker (d : Nat) (k q : Int32) : CALL (d + 12) nyX11_looker nyX12_looker [.ref 0, .int k, .int q] [.ref 43, .int k, .int q] := CALL.pure2 fun I X hR => by
  obtain ⟨nl, hn, h16, h44, hlk⟩ := tR_lk hR
  by_cases h : mIn k 0 (nI nl - 1) = 0
  · exact ⟨_, _, c_xpLookerN (d + 10) k q hn h16 h, c_mpLooker (d + 10) k q hn h44, by unfold xpLookerN mpLooker mIsL; rw [h44, if_pos h]⟩
  · obtain ⟨i, hi, rfl⟩ := mIn_no h (by omega)
    obtain ⟨a, kd, wn, hl⟩ := hlk i hi
    refine ⟨_, _, c_xpLookerS (d + 10) i kd q hn h16 hi hl, c_mpLooker (d + 10) (nI i) q hn h44, ?_⟩
    obtain ⟨hP, hlk, l0, l1, l2, l3, l4, hwn, l5, hdr⟩ := hl
    unfold xpLookerS mpLooker mIsL
    rw [h44, if_neg h, nI_clamp (by omega)]
    rw [show I 48 i = nI kd from l5, early_as hlk.2.2.2]
    rcases q_cases 3 (by omega) q with ⟨j, hj, rfl, e⟩ | ⟨e, hj⟩
    · match j, hj with
      | 0, _ => rfl
      | 1, _ => rfl
      | 2, _ => rfl
      | 3, _ => rfl
    · rw [if_neg (show ¬ q = 0 from hj 0 (by omega)), if_neg (show ¬ q = 1 from hj 1 (by omega)), if_neg (show ¬ q = 2 from hj 2 (by omega)), if_neg (show ¬ q = 3 from hj 3 (by omega)), if_neg (show ¬ mIn q 0 3 ≠ 0 from fun q => q e)]
theorem k_drift (d : Nat) (k : Int32) : CALL (d + 12) nyX11_drift nyX12_drift [.ref 0, .int k] [.ref 43, .int k] := CALL.pure2 fun I X hR => by
  obtain ⟨nl, hn, h16, h44, hlk⟩ := tR_lk hR
  by_cases h : mIn k 0 (nI nl - 1) = 0
  · exact ⟨_, _, c_xpDriftN (d + 10) k hn h16 h, c_mpDrift (d + 10) k hn h44, by unfold xpDriftN mpDrift mIsL; rw [h44, if_pos h]⟩
  · obtain ⟨i, hi, rfl⟩ := mIn_no h (by omega)
    obtain ⟨a, kd, wn, hl⟩ := hlk i hi
    refine ⟨_, _, c_xpDriftS (d + 10) i kd hn h16 hi hl, c_mpDrift (d + 10) (nI i) hn h44, ?_⟩
    obtain ⟨hP, hlk, l0, l1, l2, l3, l4, hwn, l5, hdr⟩ := hl
    unfold xpDriftS mpDrift mIsL
    rw [h44, if_neg h, nI_clamp (by omega)]
  skip
theorem k_thinks (d : Nat) (k lo mi : Int32) : CALL (d + 12) nyX11_thinks nyX12_thinks [.ref 0, .int k, .int lo, .int mi] [.ref 43, .int k, .int lo, .int mi] := CALL.pure2 fun I X hR => by
  obtain ⟨nl, hn, h16, h44, hlk⟩ := tR_lk hR
  by_cases h : mIn k 0 (nI nl - 1) = 0
  · exact ⟨_, _, c_xpThinksN (d + 10) k lo mi hn h16 h, c_mpThinks (d + 10) k lo mi hn h44, by unfold xpThinksN mpThinks mIsL; rw [h44, if_pos h]⟩
  · obtain ⟨i, hi, rfl⟩ := mIn_no h (by omega)
    obtain ⟨a, kd, wn, hl⟩ := hlk i hi
    refine ⟨_, _, c_xpThinksS (d + 10) i kd lo mi hn h16 hi hl, c_mpThinks (d + 10) (nI i) lo mi hn h44, ?_⟩
    obtain ⟨hP, hlk, l0, l1, l2, l3, l4, hwn, l5, hdr⟩ := hl
    unfold xpThinksS mpThinks mIsL
    rw [h44, if_neg h, nI_clamp (by omega)]
    rw [← xMin_eq, ← xMin_eq]
    by_cases h1 : xMin lo = 0
    · rw [if_pos h1, if_pos h1]
    · rw [if_neg h1, if_neg h1]
      by_cases h2 : xMin mi = 0
      · rw [if_pos h2, if_pos h2]
      · rw [if_neg h2, if_neg h2]
        by_cases h3 : lo ≤ mi
        · rw [if_pos h3, if_neg (Int32.not_lt.mpr h3)]
          rfl
        · rw [if_neg h3, if_pos (Int32.not_le.mp h3)]
