/-! the class: the next look, a look -/
theorem mPl_iff {row : Nat → Int32} {m : Int32} : ∀ {k : Nat}, mPl row m k ≠ 0 ↔ ∃ p, p < k ∧ row p = m
  | 0 => ⟨fun h => absurd rfl h, fun ⟨p, h, _⟩ => absurd h (Nat.not_lt_zero _)⟩
  | k + 1 => by
    unfold mPl
    by_cases e : mPl row m k ≠ 0
    · rw [if_pos e]
      obtain ⟨p, h1, h2⟩ := mPl_iff.mp e
      exact ⟨fun _ => ⟨p, by omega, h2⟩, fun _ => by decide⟩
    · rw [if_neg e]
      by_cases e2 : row k ≠ m
      · rw [if_pos e2]
        refine ⟨fun h => absurd rfl h, fun ⟨p, h1, h2⟩ => ?_⟩
        by_cases e3 : p = k
        · subst e3
          exact absurd h2 e2
        · exact absurd (mPl_iff.mpr ⟨p, by omega, h2⟩) e
      · rw [if_neg e2]
        exact ⟨fun _ => ⟨k, by omega, Decidable.not_not.mp e2⟩, fun _ => by decide⟩
theorem xNp_spec {row : Nat → Int32} {np q : Nat} (ho : okP row np) (hq : q ≤ 720) : ∀ (k i : Nat), i + k = np → (∀ p, p < i → (row p).toInt < q) → ∃ w, xNp row (nI q) k i = nI w ∧ q ≤ w ∧ w ≤ 720 ∧ (∀ j, q ≤ j → j < w → mPl row (nI j) np = 0) ∧ (w < 720 → mPl row (nI w) np ≠ 0)
  | 0, i, e, h => by
    refine ⟨720, rfl, hq, Nat.le_refl _, fun j h1 h2 => ?_, fun h => absurd h (Nat.lt_irrefl _)⟩
    refine Decidable.not_not.mp fun hp => ?_
    obtain ⟨p, h3, h4⟩ := mPl_iff.mp hp
    have h5 := h p (by omega)
    rw [h4, nI_toInt (by omega)] at h5
    omega
  | k + 1, i, e, h => by
    have hr := ho.2.1 i (by omega)
    by_cases e2 : row i < nI q
    · rw [xNp, if_pos e2]
      refine xNp_spec ho hq k (i + 1) (by omega) fun p hp => ?_
      by_cases e3 : p = i
      · subst e3
        rw [i32_lt, nI_toInt (by omega)] at e2
        exact e2
      · exact h p (by omega)
    · rw [xNp, if_neg e2]
      rw [i32_lt, nI_toInt (by omega)] at e2
      have hz := clampZ hr.1
      refine ⟨(row i).toNatClampNeg, nI_ofZ hr.1, by omega, by omega, fun j h1 h2 => ?_, fun _ => ?_⟩
      · refine Decidable.not_not.mp fun hp => ?_
        obtain ⟨p, h3, h4⟩ := mPl_iff.mp hp
        have h5 : (row p).toInt = j := by rw [h4, nI_toInt (by omega)]
        rcases Nat.lt_trichotomy p i with h6 | h6 | h6
        · have := h p h6
          omega
        · subst h6
          omega
        · have := ho.2.2 i p h6 h3
          omega
      · exact mPl_iff.mpr ⟨i, by omega, nI_ofZ hr.1⟩
/-- when one looks next -/
def nlZ (kd : Nat) (row : Nat → Int32) (np : Nat) (f law : Int32) (rd : Nat) (q : Int32) (z : Int32) : Int32 :=
  if kd = 2 ∨ kd = 4 ∨ kd = 5 then (if z ≤ 0 then nI rd else 720) else if kd = 3 ∨ kd = 7 then (if z ≤ 0 then nI (xCh law f rd) else 720) else if kd = 6 then xNp row q np 0 else 720
theorem getP_town {I : Nat → Nat → Int32} {X : MX} {al : List (Option Value)} {st : List Value} {nx : Nat} {call : MCall} (h : X.1 19 2 = some 1) : mjgetP [3] 2 nx call (al, .ref 19 :: st, mjH I X) = some (.inl (nx, (al, .ref 1 :: st, mjH I X))) := by
  unfold mjgetP
  show (some (.inl (nx, (al, va_rf (X.1 19 2) :: st, mjH I X))) : Option ((Nat × MF) ⊕ (MO × MH))) = _
  rw [h]
  rfl
theorem c_xN1 (d : Nat) {a rd : Nat} {q z : Int32} {I : Nat → Nat → Int32} {X : MX} (hr : rd ≤ 720) : mjEv (d + 2) nyX1_nextLook [.ref a, .ref 19, .int (nI rd), .int q, .int z] (mjH I X) (.inl (some (.int (if z ≤ 0 then nI (xCh (I 19 5) (I 19 3) rd) else 720)))) (mjH I X) := by
  refine mjEv.of ?_
  show mjGo (d + 2) nyX1_nextLook 0 ([some (.ref a), some (.ref 19), some (.int (nI rd)), some (.int q), some (.int z)], [], mjH I X) _
  refine mjGo.run 2 (pc' := (bif decide (z ≤ 0) then 11 else 5)) (F' := ([some (.ref a), some (.ref 19), some (.int (nI rd)), some (.int q), some (.int z)], [], mjH I X)) (fun _ => rfl) ?_
  refine mjGo.br (fun q1 => ?_) (fun q1 => ?_)
  · show mjGo _ _ 11 _ _
    refine mjGo.run 5 (pc' := 20) (F' := ([some (.ref a), some (.ref 19), some (.int (nI rd)), some (.int q), some (.int z)], [.int (I 19 5), .int (I 19 3), .int (nI rd)], mjH I X)) (fun _ => rfl) ?_
    refine mjGo.call (n := 3) (j := 20) (nx := 23) (o := some (.int (nI (xCh (I 19 5) (I 19 3) rd)))) (h' := mjH I X) (fun _ => rfl) (c_xCh d hr) ?_
    show mjGo _ _ 23 ([some (.ref a), some (.ref 19), some (.int (nI rd)), some (.int q), some (.int z)], [.int (nI (xCh (I 19 5) (I 19 3) rd))], mjH I X) _
    rw [if_pos q1]
    exact mjGo.ret 1 (fun _ => rfl) rfl
  · show mjGo _ _ 5 _ _
    rw [if_neg q1]
    exact mjGo.ret 3 (fun _ => rfl) rfl
theorem c_xN9 (d : Nat) {a np : Nat} {x q z : Int32} {I : Nat → Nat → Int32} {X : MX} (hP : X.1 19 2 = some 1) (hnp : I 1 7 = nI np) (h8 : np ≤ 8) : mjEv (d + 1) nyX9_nextLook [.ref a, .ref 19, .int x, .int q, .int z] (mjH I X) (.inl (some (.int (xNp (I 6) q np 0)))) (mjH I X) := by
  refine mjEv.of ?_
  show mjGo (d + 1) nyX9_nextLook 0 ([some (.ref a), some (.ref 19), some (.int (x)), some (.int q), some (.int z)], [], mjH I X) _
  refine mjGo.run 1 (pc' := 1) (F' := ([some (.ref a), some (.ref 19), some (.int x), some (.int q), some (.int z)], [.ref 19], mjH I X)) (fun _ => rfl) ?_
  refine mjGo.op (pc' := 4) (F' := ([some (.ref a), some (.ref 19), some (.int x), some (.int q), some (.int z)], [.ref 1], mjH I X)) (o := mjgetP [3] 2 4) rfl (fun _ => getP_town hP) ?_
  refine mjGo.run 2 (pc' := 14) (F' := ([some (.ref a), some (.ref 19), some (.int x), some (.int q), some (.int z)], [.ref 19], mjH I X)) (fun _ => rfl) ?_
  refine mjGo.op (pc' := 17) (F' := ([some (.ref a), some (.ref 19), some (.int x), some (.int q), some (.int z)], [.ref 1], mjH I X)) (o := mjgetP [3] 2 17) rfl (fun _ => getP_town hP) ?_
  refine mjGo.run 1 (pc' := 18) (F' := ([some (.ref a), some (.ref 19), some (.int x), some (.int q), some (.int z)], [.int q, .ref 1], mjH I X)) (fun _ => rfl) ?_
  refine mjGo.call (n := 2) (j := 33) (nx := 21) (o := some (.int (xNp (I 6) q np 0))) (h' := mjH I X) (fun _ => rfl) (c_xNp d hnp h8) ?_
  show mjGo _ _ 21 ([some (.ref a), some (.ref 19), some (.int x), some (.int q), some (.int z)], [.int (xNp (I 6) q np 0)], mjH I X) _
  exact mjGo.ret 1 (fun _ => rfl) rfl
theorem v_next {d a kd np rd : Nat} {q z : Int32} {I : Nat → Nat → Int32} {X : MX} (hT : mjT (mjH I X) a = (lkc kd, 0)) (hk : kd < 8) (hP : X.1 19 2 = some 1) (hnp : I 1 7 = nI np) (h8 : np ≤ 8) (hr : rd ≤ 720) : ∃ j, mjlk (mjT (mjH I X) a).1 [(0, 24), (1, 21), (2, 24), (4, 32), (5, 32), (7, 21), (8, 24), (9, 34)] = some j ∧ mjEv (d + 2) j [.ref a, .ref 19, .int (nI rd), .int q, .int z] (mjH I X) (.inl (some (.int (nlZ kd (I 6) np (I 19 3) (I 19 5) rd q z)))) (mjH I X) := by
  rw [hT]
  refine kd_cases (P := fun kd => ∃ j, mjlk (lkc kd) [(0, 24), (1, 21), (2, 24), (4, 32), (5, 32), (7, 21), (8, 24), (9, 34)] = some j ∧ mjEv (d + 2) j [.ref a, .ref 19, .int (nI rd), .int q, .int z] (mjH I X) (.inl (some (.int (nlZ kd (I 6) np (I 19 3) (I 19 5) rd q z)))) (mjH I X)) hk ?_ ?_ ?_ ?_ ?_ ?_ ?_ ?_
  · exact ⟨_, rfl, c_xN4 _ a 19 (nI rd) q z _⟩
  · exact ⟨_, rfl, c_xN4 _ a 19 (nI rd) q z _⟩
  · exact ⟨_, rfl, c_xN2 _ a 19 (nI rd) q z _⟩
  · exact ⟨_, rfl, c_xN1 d hr⟩
  · exact ⟨_, rfl, c_xN2 _ a 19 (nI rd) q z _⟩
  · exact ⟨_, rfl, c_xN2 _ a 19 (nI rd) q z _⟩
  · exact ⟨_, rfl, c_xN9 _ hP hnp h8⟩
  · exact ⟨_, rfl, c_xN1 d hr⟩
/-- the class's cells after a look -/
def lkS (I : Nat → Nat → Int32) (c : Nat) (fee : Int32) (m : Nat) : Nat → Nat → Int32 := mjU (mjU (mjU (mjU (mjU I 19 12 (I 19 12 + fee)) 19 9 (I 19 9 + fee)) 19 6 (nI m)) 20 c (nI m)) 19 8 (I 19 8 + 1)
theorem c_xLk (d : Nat) {a kd c lw m : Nat} {I : Nat → Nat → Int32} {X : MX} (hT : mjT (mjH I X) a = (lkc kd, 0)) (hN : a < mjN (mjH I X)) (hk : kd < 8) (hc : I 19 8 = nI c) (hc13 : c < 13) (hl : I 19 5 = nI lw) (hlw : lw < 3) (hm : m < 720) : mjEv (d + 2) nyX3_lookAt [.ref 19, .ref a, .int (nI m)] (mjH I X) (.inl none) (mjH (lkS I c (mPays (asOf kd) (mPrice (nI lw) (nI m))) m) X) := by
  have hp : mPrice (nI lw) (nI m) = xPrice (nI m) (I 19 5) := by rw [hl, xPrice_eq hlw hm]
  have hc2 : c = (I 19 8).toNatClampNeg := by rw [hc, nI_clamp (by omega)]
  rw [hp]
  refine mjEv.of ?_
  show mjGo (d + 2) nyX3_lookAt 0 ([some (.ref 19), some (.ref a), some (.int (nI m)), none], [], mjH I X) _
  refine mjGo.run 4 (pc' := 6) (F' := ([some (.ref 19), some (.ref a), some (.int (nI m)), none], [.int (I 19 5), .int (nI m), .ref a], mjH I X)) (fun _ => rfl) ?_
  refine mjGo.call (n := 2) (j := 19) (nx := 9) (o := some (.int (xPrice (nI m) (I 19 5)))) (h' := mjH I X) (fun _ => rfl) (c_xPrice _ _ _ _) ?_
  show mjGo _ _ 9 ([some (.ref 19), some (.ref a), some (.int (nI m)), none], [.int (xPrice (nI m) (I 19 5)), .ref a], mjH I X) _
  refine mjGo.callL (o := some (.int (mPays (asOf kd) (xPrice (nI m) (I 19 5))))) (h' := mjH I X) (nx := 12) rfl rfl rfl (hN) (v_fee hT hk) ?_
  show mjGo _ _ 12 ([some (.ref 19), some (.ref a), some (.int (nI m)), none], [.int (mPays (asOf kd) (xPrice (nI m) (I 19 5)))], mjH I X) _
  refine mjGo.run 19 (pc' := (bif decide ((I 19 8) < 0) then 74 else 45)) (F' := ([some (.ref 19), some (.ref a), some (.int (nI m)), some (.int (mPays (asOf kd) (xPrice (nI m) (I 19 5))))], [], mjH (mjU (mjU (mjU I 19 12 ((I 19 12) + (mPays (asOf kd) (xPrice (nI m) (I 19 5))))) 19 9 ((I 19 9) + (mPays (asOf kd) (xPrice (nI m) (I 19 5))))) 19 6 (nI m)) X)) (fun _ => rfl) ?_
  refine mjGo.br (fun q1 => ?_) (fun q1 => ?_)
  · show mjGo _ _ 74 _ _
    rw [hc] at q1
    exact absurd q1 (nI_pos (by omega))
  · show mjGo _ _ 45 _ _
    refine mjGo.run 4 (pc' := (bif decide (13 ≤ (I 19 8)) then 74 else 54)) (F' := ([some (.ref 19), some (.ref a), some (.int (nI m)), some (.int (mPays (asOf kd) (xPrice (nI m) (I 19 5))))], [], mjH (mjU (mjU (mjU I 19 12 ((I 19 12) + (mPays (asOf kd) (xPrice (nI m) (I 19 5))))) 19 9 ((I 19 9) + (mPays (asOf kd) (xPrice (nI m) (I 19 5))))) 19 6 (nI m)) X)) (fun _ => rfl) ?_
    refine mjGo.br (fun q2 => ?_) (fun q2 => ?_)
    · show mjGo _ _ 74 _ _
      rw [hc, show (13 : Int32) = nI 13 from rfl, nI_leI (by omega) (by omega)] at q2
      exact absurd q2 (by omega)
    · show mjGo _ _ 54 _ _
      refine mjGo.run 5 (pc' := 63) (F' := ([some (.ref 19), some (.ref a), some (.int (nI m)), some (.int (mPays (asOf kd) (xPrice (nI m) (I 19 5))))], [.int (nI m), .int (I 19 8), .ref 20], mjH (mjU (mjU (mjU I 19 12 ((I 19 12) + (mPays (asOf kd) (xPrice (nI m) (I 19 5))))) 19 9 ((I 19 9) + (mPays (asOf kd) (xPrice (nI m) (I 19 5))))) 19 6 (nI m)) X)) (fun _ => rfl) ?_
      refine mjGo.op (pc' := 64) (F' := ([some (.ref 19), some (.ref a), some (.int (nI m)), some (.int (mPays (asOf kd) (xPrice (nI m) (I 19 5))))], [], mjH (mjU (mjU (mjU (mjU I 19 12 ((I 19 12) + (mPays (asOf kd) (xPrice (nI m) (I 19 5))))) 19 9 ((I 19 9) + (mPays (asOf kd) (xPrice (nI m) (I 19 5))))) 19 6 (nI m)) 20 ((I 19 8)).toNatClampNeg (nI m)) X)) (o := mjiast 64) rfl (fun _ => mjast_i (n := 13) (by rw [hc]; exact mjin_n hc13 (by omega)) (rfl) (rfl)) ?_
      subst hc2
      exact mjGo.ret 7 (fun _ => rfl) rfl
