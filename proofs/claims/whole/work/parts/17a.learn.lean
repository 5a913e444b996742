/-! learn -/
def bI (b : Bool) : Int32 := if b = true then 1 else 0
theorem bI_01 (b : Bool) : bI b = 0 ∨ bI b = 1 := by cases b <;> decide
theorem bI_n {b : Bool} : (bI b = 0) ↔ b = false := by cases b <;> decide
theorem bI_y {b : Bool} : (bI b ≠ 0) ↔ b = true := by cases b <;> decide
def alB (p : Nat → Bool) : Nat → Nat → Bool
  | 0, _ => true
  | k + 1, j => p j && alB p k (j + 1)
theorem alB_f {p : Nat → Bool} {k j : Nat} (h : p j = false) : alB p (k + 1) j = false := by rw [alB, h, Bool.false_and]
theorem alB_t {p : Nat → Bool} {k j : Nat} (h : p j = true) : alB p (k + 1) j = alB p k (j + 1) := by rw [alB, h, Bool.true_and]
def thB (f : Nat → Int32) (j : Nat) : Bool := !decide (mMin (f (3 * j)) = 0) && !decide (mMin (f (3 * j + 1)) = 0) && decide (f (3 * j) < f (3 * j + 1))
theorem thB_1 {f : Nat → Int32} {j : Nat} (h : mMin (f (3 * j)) = 0) : thB f j = false := by
  unfold thB
  rw [decide_eq_true h]
  rfl
theorem thB_2 {f : Nat → Int32} {j : Nat} (h : mMin (f (3 * j + 1)) = 0) : thB f j = false := by
  unfold thB
  rw [decide_eq_true h, Bool.not_true, Bool.and_false, Bool.false_and]
theorem thB_3 {f : Nat → Int32} {j : Nat} (h : ¬ f (3 * j) < f (3 * j + 1)) : thB f j = false := by
  unfold thB
  rw [decide_eq_false h, Bool.and_false]
theorem thB_4 {f : Nat → Int32} {j : Nat} (h1 : ¬ mMin (f (3 * j)) = 0) (h2 : ¬ mMin (f (3 * j + 1)) = 0) (h : f (3 * j) < f (3 * j + 1)) : thB f j = true := by
  unfold thB
  rw [decide_eq_false h1, decide_eq_false h2, decide_eq_true h]
  rfl
def cbB (f : Nat → Int32) (v : Int32) (j : Nat) : Bool := decide (mTho v (f (3 * j)) (f (3 * j + 1)) = f (3 * j + 2))
def vI (j : Nat) : Int32 := nI j - 20
theorem vI_d : ∀ j : Fin 42, (20 < vI j.val ↔ j.val = 41) ∧ vI j.val + 20 = nI j.val ∧ vI j.val + 1 = vI (j.val + 1) ∧ 20 + vI j.val = nI j.val := by decide +kernel
theorem vI_lt {j : Nat} (h : j < 42) : 20 < vI j ↔ j = 41 := (vI_d ⟨j, h⟩).1
theorem vI_20 {j : Nat} (h : j < 42) : vI j + 20 = nI j := (vI_d ⟨j, h⟩).2.1
theorem vI_1 {j : Nat} (h : j < 42) : vI j + 1 = vI (j + 1) := (vI_d ⟨j, h⟩).2.2.1
theorem vI_02 {j : Nat} (h : j < 42) : 20 + vI j = nI j := (vI_d ⟨j, h⟩).2.2.2
theorem md3_d : ∀ j : Fin 101, (nI j.val - nI j.val / 3 * 3 = 0 ↔ j.val % 3 = 0) ∧ nI j.val / 3 = nI (j.val / 3) := by decide +kernel
theorem md3 {j : Nat} (h : j ≤ 100) : nI j - nI j / 3 * 3 = 0 ↔ j % 3 = 0 := (md3_d ⟨j, by omega⟩).1
theorem dv3 {j : Nat} (h : j ≤ 100) : nI j / 3 = nI (j / 3) := (md3_d ⟨j, by omega⟩).2
theorem mu3 {j : Nat} : 3 * nI j = nI (3 * j) := nI_mul 3 j
theorem id3 {e j : Nat} : 100 * nI e + 3 * nI j = nI (100 * e + 3 * j) := by rw [mu3, idx_eq]
def lrV (F : Nat → Bool) (q : Int32) : Nat → Nat → Nat → Nat → Nat → Int32
  | 0, _, n, a, b => if q = 0 then nI n else if n = 0 then -4 else if q = 1 then nI a else nI b
  | k + 1, j, n, a, b => if F j = true then lrV F q k (j + 1) (n + 1) (if n = 0 then j else a) j else lrV F q k (j + 1) n a b
theorem x_ar_loop {d e sz m : Nat} {f : Nat → Int32} {I : Nat → Nat → Int32} {X : MX} (he : e < 8) (hz : I (27 + 2 * e) 2 = nI sz) (hs : sz ≤ 100) (hm : sz = 3 * m) (hf : ∀ j, j < sz → I (28 + 2 * e) j = f j) : ∀ (k j : Nat) (o2 o3 : Option Value), j + k = m →
    mjGo (d + 2) nyX11_areThoughts 13 ([some (.ref (27 + 2 * e)), some (.int (nI (3 * j))), o2, o3], [], mjH I X) (fun x => x = (.inl (some (.int (bI (alB (thB f) k j)))), mjH I X)) := by
  intro k
  induction k with
  | zero =>
    intro j o2 o3 hj
    refine mjGo.run 4 (pc' := 17) (F' := ([some (.ref (27 + 2 * e)), some (.int (nI (3 * j))), o2, o3], [.ref (27 + 2 * e), .int ((nI (3 * j)) + 2)], mjH I X)) (fun _ => rfl) ?_
    refine mjGo.op (pc' := 20) (F' := ([some (.ref (27 + 2 * e)), some (.int (nI (3 * j))), o2, o3], [.int (I (27 + 2 * e) 2), .int ((nI (3 * j)) + 2)], mjH I X)) (o := mjgetI [6] 2 20) rfl (fun _ => row_getI he) ?_
    refine mjGo.run 1 (pc' := (bif decide ((I (27 + 2 * e) 2) ≤ ((nI (3 * j)) + 2)) then 64 else 23)) (F' := ([some (.ref (27 + 2 * e)), some (.int (nI (3 * j))), o2, o3], [], mjH I X)) (fun _ => rfl) ?_
    refine mjGo.brT (by rw [hz, show ((nI (3 * j)) + 2 : Int32) = nI (3 * j + 2) from nI_add _ 2, nI_leI (by omega) (by omega)]; omega) ?_
    show mjGo _ _ 64 _ _
    exact mjGo.ret 2 (fun _ => rfl) rfl
  | succ k ih =>
    intro j o2 o3 hj
    refine mjGo.run 4 (pc' := 17) (F' := ([some (.ref (27 + 2 * e)), some (.int (nI (3 * j))), o2, o3], [.ref (27 + 2 * e), .int ((nI (3 * j)) + 2)], mjH I X)) (fun _ => rfl) ?_
    refine mjGo.op (pc' := 20) (F' := ([some (.ref (27 + 2 * e)), some (.int (nI (3 * j))), o2, o3], [.int (I (27 + 2 * e) 2), .int ((nI (3 * j)) + 2)], mjH I X)) (o := mjgetI [6] 2 20) rfl (fun _ => row_getI he) ?_
    refine mjGo.run 1 (pc' := (bif decide ((I (27 + 2 * e) 2) ≤ ((nI (3 * j)) + 2)) then 64 else 23)) (F' := ([some (.ref (27 + 2 * e)), some (.int (nI (3 * j))), o2, o3], [], mjH I X)) (fun _ => rfl) ?_
    refine mjGo.brF (by rw [hz, show ((nI (3 * j)) + 2 : Int32) = nI (3 * j + 2) from nI_add _ 2, nI_leI (by omega) (by omega)]; omega) ?_
    show mjGo _ _ 23 _ _
    refine mjGo.run 2 (pc' := 25) (F' := ([some (.ref (27 + 2 * e)), some (.int (nI (3 * j))), o2, o3], [.int (nI (3 * j)), .ref (27 + 2 * e)], mjH I X)) (fun _ => rfl) ?_
    refine mjGo.callL (o := some (.int (f (3 * j)))) (h' := mjH I X) (nx := 28) rfl rfl rfl ((row_N he).1) ⟨_, row_lk he, (by have q9 := c_xVal d (I := I) (X := X) e (nI (3 * j)) he; rw [xVal_in hz hs (by omega), hf _ (by omega)] at q9; exact q9)⟩ ?_
    show mjGo _ _ 28 ([some (.ref (27 + 2 * e)), some (.int (nI (3 * j))), o2, o3], [.int (f (3 * j))], mjH I X) _
    refine mjGo.run 5 (pc' := 33) (F' := ([some (.ref (27 + 2 * e)), some (.int (nI (3 * j))), some (.int (f (3 * j))), o3], [.int ((nI (3 * j)) + 1), .ref (27 + 2 * e)], mjH I X)) (fun _ => rfl) ?_
    refine mjGo.callL (o := some (.int (f (3 * j + 1)))) (h' := mjH I X) (nx := 36) rfl rfl rfl ((row_N he).1) ⟨_, row_lk he, (by have q9 := c_xVal d (I := I) (X := X) e (nI (3 * j + 1)) he; rw [xVal_in hz hs (by omega), hf _ (by omega)] at q9; rw [show ((nI (3 * j)) + 1 : Int32) = nI (3 * j + 1) from nI_add _ 1]; exact q9)⟩ ?_
    show mjGo _ _ 36 ([some (.ref (27 + 2 * e)), some (.int (nI (3 * j))), some (.int (f (3 * j))), o3], [.int (f (3 * j + 1))], mjH I X) _
    refine mjGo.run 2 (pc' := 38) (F' := ([some (.ref (27 + 2 * e)), some (.int (nI (3 * j))), some (.int (f (3 * j))), some (.int (f (3 * j + 1)))], [.int (f (3 * j))], mjH I X)) (fun _ => rfl) ?_
    refine mjGo.call (n := 1) (j := 69) (nx := 41) (o := some (.int (xMin (f (3 * j))))) (h' := mjH I X) (fun _ => rfl) (c_xMin (d + 1) (f (3 * j)) _) ?_
    show mjGo _ _ 41 ([some (.ref (27 + 2 * e)), some (.int (nI (3 * j))), some (.int (f (3 * j))), some (.int (f (3 * j + 1)))], [.int (xMin (f (3 * j)))], mjH I X) _
    refine mjGo.run 1 (pc' := (bif decide ((xMin (f (3 * j))) = 0) then 56 else 44)) (F' := ([some (.ref (27 + 2 * e)), some (.int (nI (3 * j))), some (.int (f (3 * j))), some (.int (f (3 * j + 1)))], [], mjH I X)) (fun _ => rfl) ?_
    refine mjGo.br (fun q1 => ?_) (fun q1 => ?_)
    · show mjGo _ _ 56 _ _
      rw [alB_f (thB_1 q1)]
      exact mjGo.ret 2 (fun _ => rfl) rfl
    · show mjGo _ _ 44 _ _
      refine mjGo.run 1 (pc' := 45) (F' := ([some (.ref (27 + 2 * e)), some (.int (nI (3 * j))), some (.int (f (3 * j))), some (.int (f (3 * j + 1)))], [.int (f (3 * j + 1))], mjH I X)) (fun _ => rfl) ?_
      refine mjGo.call (n := 1) (j := 69) (nx := 48) (o := some (.int (xMin (f (3 * j + 1))))) (h' := mjH I X) (fun _ => rfl) (c_xMin (d + 1) (f (3 * j + 1)) _) ?_
      show mjGo _ _ 48 ([some (.ref (27 + 2 * e)), some (.int (nI (3 * j))), some (.int (f (3 * j))), some (.int (f (3 * j + 1)))], [.int (xMin (f (3 * j + 1)))], mjH I X) _
      refine mjGo.run 1 (pc' := (bif decide ((xMin (f (3 * j + 1))) = 0) then 56 else 51)) (F' := ([some (.ref (27 + 2 * e)), some (.int (nI (3 * j))), some (.int (f (3 * j))), some (.int (f (3 * j + 1)))], [], mjH I X)) (fun _ => rfl) ?_
      refine mjGo.br (fun q2 => ?_) (fun q2 => ?_)
      · show mjGo _ _ 56 _ _
        rw [alB_f (thB_2 q2)]
        exact mjGo.ret 2 (fun _ => rfl) rfl
      · show mjGo _ _ 51 _ _
        refine mjGo.run 3 (pc' := (bif decide ((f (3 * j)) < (f (3 * j + 1))) then 58 else 56)) (F' := ([some (.ref (27 + 2 * e)), some (.int (nI (3 * j))), some (.int (f (3 * j))), some (.int (f (3 * j + 1)))], [], mjH I X)) (fun _ => rfl) ?_
        refine mjGo.br (fun q3 => ?_) (fun q3 => ?_)
        · show mjGo _ _ 58 _ _
          refine mjGo.run 2 (pc' := 13) (F' := ([some (.ref (27 + 2 * e)), some (.int ((nI (3 * j)) + 3)), some (.int (f (3 * j))), some (.int (f (3 * j + 1)))], [], mjH I X)) (fun _ => rfl) ?_
          have k9 := ih (j + 1) (some (.int (f (3 * j)))) (some (.int (f (3 * j + 1)))) (by omega)
          rw [show nI (3 * (j + 1)) = nI (3 * j) + 3 from (nI_add _ 3).symm] at k9
          rw [alB_t (thB_4 q1 q2 q3)]
          exact k9
        · show mjGo _ _ 56 _ _
          rw [alB_f (thB_3 q3)]
          exact mjGo.ret 2 (fun _ => rfl) rfl
theorem c_xArY (d : Nat) {e sz m : Nat} {f : Nat → Int32} {I : Nat → Nat → Int32} {X : MX} (he : e < 8) (hz : I (27 + 2 * e) 2 = nI sz) (hs : sz ≤ 100) (hm : sz = 3 * m) (hf : ∀ j, j < sz → I (28 + 2 * e) j = f j) : mjEv (d + 2) nyX11_areThoughts [.ref (27 + 2 * e)] (mjH I X) (.inl (some (.int (bI (alB (thB f) m 0))))) (mjH I X) := by
  refine mjEv.of ?_
  show mjGo (d + 2) nyX11_areThoughts 0 ([some (.ref (27 + 2 * e)), none, none, none], [], mjH I X) _
  refine mjGo.run 1 (pc' := 1) (F' := ([some (.ref (27 + 2 * e)), none, none, none], [.ref (27 + 2 * e)], mjH I X)) (fun _ => rfl) ?_
  refine mjGo.op (pc' := 4) (F' := ([some (.ref (27 + 2 * e)), none, none, none], [.int (I (27 + 2 * e) 2)], mjH I X)) (o := mjgetI [6] 2 4) rfl (fun _ => row_getI he) ?_
  refine mjGo.run 2 (pc' := 6) (F' := ([some (.ref (27 + 2 * e)), none, none, none], [.int ((I (27 + 2 * e) 2) - (I (27 + 2 * e) 2) / 3 * 3)], mjH I X)) (fun _ => rfl) ?_
  refine mjGo.run 1 (pc' := (bif decide (((I (27 + 2 * e) 2) - (I (27 + 2 * e) 2) / 3 * 3) = 0) then 11 else 9)) (F' := ([some (.ref (27 + 2 * e)), none, none, none], [], mjH I X)) (fun _ => rfl) ?_
  refine mjGo.brT (by rw [hz, md3 hs]; omega) ?_
  show mjGo _ _ 11 _ _
  refine mjGo.run 2 (pc' := 13) (F' := ([some (.ref (27 + 2 * e)), some (.int 0), none, none], [], mjH I X)) (fun _ => rfl) ?_
  exact x_ar_loop (d := d) he hz hs hm hf m 0 none none (by omega)
theorem c_xArN (d : Nat) {e sz : Nat} {I : Nat → Nat → Int32} {X : MX} (he : e < 8) (hz : I (27 + 2 * e) 2 = nI sz) (hs : sz ≤ 100) (hm : ¬ sz % 3 = 0) : mjEv (d + 2) nyX11_areThoughts [.ref (27 + 2 * e)] (mjH I X) (.inl (some (.int 0))) (mjH I X) := by
  refine mjEv.of ?_
  show mjGo (d + 2) nyX11_areThoughts 0 ([some (.ref (27 + 2 * e)), none, none, none], [], mjH I X) _
  refine mjGo.run 1 (pc' := 1) (F' := ([some (.ref (27 + 2 * e)), none, none, none], [.ref (27 + 2 * e)], mjH I X)) (fun _ => rfl) ?_
  refine mjGo.op (pc' := 4) (F' := ([some (.ref (27 + 2 * e)), none, none, none], [.int (I (27 + 2 * e) 2)], mjH I X)) (o := mjgetI [6] 2 4) rfl (fun _ => row_getI he) ?_
  refine mjGo.run 2 (pc' := 6) (F' := ([some (.ref (27 + 2 * e)), none, none, none], [.int ((I (27 + 2 * e) 2) - (I (27 + 2 * e) 2) / 3 * 3)], mjH I X)) (fun _ => rfl) ?_
  refine mjGo.run 1 (pc' := (bif decide (((I (27 + 2 * e) 2) - (I (27 + 2 * e) 2) / 3 * 3) = 0) then 11 else 9)) (F' := ([some (.ref (27 + 2 * e)), none, none, none], [], mjH I X)) (fun _ => rfl) ?_
  refine mjGo.brF (by rw [hz, md3 hs]; omega) ?_
  show mjGo _ _ 9 _ _
  exact mjGo.ret 2 (fun _ => rfl) rfl
theorem x_cb_loop {v : Int32} {d e sz m : Nat} {f : Nat → Int32} {I : Nat → Nat → Int32} {X : MX} (he : e < 8) (hz : I (27 + 2 * e) 2 = nI sz) (hs : sz ≤ 100) (hm : sz = 3 * m) (hf : ∀ j, j < sz → I (28 + 2 * e) j = f j) : ∀ (k j : Nat) (o3 : Option Value), j + k = m →
    mjGo (d + 2) nyX11_couldBe 2 ([some (.ref (27 + 2 * e)), some (.int v), some (.int (nI (3 * j))), o3], [], mjH I X) (fun x => x = (.inl (some (.int (bI (alB (cbB f v) k j)))), mjH I X)) := by
  intro k
  induction k with
  | zero =>
    intro j o3 hj
    refine mjGo.run 4 (pc' := 6) (F' := ([some (.ref (27 + 2 * e)), some (.int v), some (.int (nI (3 * j))), o3], [.ref (27 + 2 * e), .int ((nI (3 * j)) + 2)], mjH I X)) (fun _ => rfl) ?_
    refine mjGo.op (pc' := 9) (F' := ([some (.ref (27 + 2 * e)), some (.int v), some (.int (nI (3 * j))), o3], [.int (I (27 + 2 * e) 2), .int ((nI (3 * j)) + 2)], mjH I X)) (o := mjgetI [6] 2 9) rfl (fun _ => row_getI he) ?_
    refine mjGo.run 1 (pc' := (bif decide ((I (27 + 2 * e) 2) ≤ ((nI (3 * j)) + 2)) then 48 else 12)) (F' := ([some (.ref (27 + 2 * e)), some (.int v), some (.int (nI (3 * j))), o3], [], mjH I X)) (fun _ => rfl) ?_
    refine mjGo.brT (by rw [hz, show ((nI (3 * j)) + 2 : Int32) = nI (3 * j + 2) from nI_add _ 2, nI_leI (by omega) (by omega)]; omega) ?_
    show mjGo _ _ 48 _ _
    exact mjGo.ret 2 (fun _ => rfl) rfl
  | succ k ih =>
    intro j o3 hj
    refine mjGo.run 4 (pc' := 6) (F' := ([some (.ref (27 + 2 * e)), some (.int v), some (.int (nI (3 * j))), o3], [.ref (27 + 2 * e), .int ((nI (3 * j)) + 2)], mjH I X)) (fun _ => rfl) ?_
    refine mjGo.op (pc' := 9) (F' := ([some (.ref (27 + 2 * e)), some (.int v), some (.int (nI (3 * j))), o3], [.int (I (27 + 2 * e) 2), .int ((nI (3 * j)) + 2)], mjH I X)) (o := mjgetI [6] 2 9) rfl (fun _ => row_getI he) ?_
    refine mjGo.run 1 (pc' := (bif decide ((I (27 + 2 * e) 2) ≤ ((nI (3 * j)) + 2)) then 48 else 12)) (F' := ([some (.ref (27 + 2 * e)), some (.int v), some (.int (nI (3 * j))), o3], [], mjH I X)) (fun _ => rfl) ?_
    refine mjGo.brF (by rw [hz, show ((nI (3 * j)) + 2 : Int32) = nI (3 * j + 2) from nI_add _ 2, nI_leI (by omega) (by omega)]; omega) ?_
    show mjGo _ _ 12 _ _
    refine mjGo.run 3 (pc' := 15) (F' := ([some (.ref (27 + 2 * e)), some (.int v), some (.int (nI (3 * j))), o3], [.int (nI (3 * j)), .ref (27 + 2 * e), .int v], mjH I X)) (fun _ => rfl) ?_
    refine mjGo.callL (o := some (.int (f (3 * j)))) (h' := mjH I X) (nx := 18) rfl rfl rfl ((row_N he).1) ⟨_, row_lk he, (by have q9 := c_xVal d (I := I) (X := X) e (nI (3 * j)) he; rw [xVal_in hz hs (by omega), hf _ (by omega)] at q9; exact q9)⟩ ?_
    show mjGo _ _ 18 ([some (.ref (27 + 2 * e)), some (.int v), some (.int (nI (3 * j))), o3], [.int (f (3 * j)), .int v], mjH I X) _
    refine mjGo.run 4 (pc' := 22) (F' := ([some (.ref (27 + 2 * e)), some (.int v), some (.int (nI (3 * j))), o3], [.int ((nI (3 * j)) + 1), .ref (27 + 2 * e), .int (f (3 * j)), .int v], mjH I X)) (fun _ => rfl) ?_
    refine mjGo.callL (o := some (.int (f (3 * j + 1)))) (h' := mjH I X) (nx := 25) rfl rfl rfl ((row_N he).1) ⟨_, row_lk he, (by have q9 := c_xVal d (I := I) (X := X) e (nI (3 * j + 1)) he; rw [xVal_in hz hs (by omega), hf _ (by omega)] at q9; rw [show ((nI (3 * j)) + 1 : Int32) = nI (3 * j + 1) from nI_add _ 1]; exact q9)⟩ ?_
    show mjGo _ _ 25 ([some (.ref (27 + 2 * e)), some (.int v), some (.int (nI (3 * j))), o3], [.int (f (3 * j + 1)), .int (f (3 * j)), .int v], mjH I X) _
    refine mjGo.call (n := 3) (j := 30) (nx := 28) (o := some (.int (xTho v (f (3 * j)) (f (3 * j + 1))))) (h' := mjH I X) (fun _ => rfl) (c_xTho (d + 1) v (f (3 * j)) (f (3 * j + 1)) _) ?_
    show mjGo _ _ 28 ([some (.ref (27 + 2 * e)), some (.int v), some (.int (nI (3 * j))), o3], [.int (xTho v (f (3 * j)) (f (3 * j + 1)))], mjH I X) _
    refine mjGo.run 6 (pc' := 34) (F' := ([some (.ref (27 + 2 * e)), some (.int v), some (.int (nI (3 * j))), some (.int (xTho v (f (3 * j)) (f (3 * j + 1))))], [.int ((nI (3 * j)) + 2), .ref (27 + 2 * e), .int (xTho v (f (3 * j)) (f (3 * j + 1)))], mjH I X)) (fun _ => rfl) ?_
    refine mjGo.callL (o := some (.int (f (3 * j + 2)))) (h' := mjH I X) (nx := 37) rfl rfl rfl ((row_N he).1) ⟨_, row_lk he, (by have q9 := c_xVal d (I := I) (X := X) e (nI (3 * j + 2)) he; rw [xVal_in hz hs (by omega), hf _ (by omega)] at q9; rw [show ((nI (3 * j)) + 2 : Int32) = nI (3 * j + 2) from nI_add _ 2]; exact q9)⟩ ?_
    show mjGo _ _ 37 ([some (.ref (27 + 2 * e)), some (.int v), some (.int (nI (3 * j))), some (.int (xTho v (f (3 * j)) (f (3 * j + 1))))], [.int (f (3 * j + 2)), .int (xTho v (f (3 * j)) (f (3 * j + 1)))], mjH I X) _
    refine mjGo.run 1 (pc' := (bif decide ((xTho v (f (3 * j)) (f (3 * j + 1))) = (f (3 * j + 2))) then 42 else 40)) (F' := ([some (.ref (27 + 2 * e)), some (.int v), some (.int (nI (3 * j))), some (.int (xTho v (f (3 * j)) (f (3 * j + 1))))], [], mjH I X)) (fun _ => rfl) ?_
    refine mjGo.br (fun q1 => ?_) (fun q1 => ?_)
    · show mjGo _ _ 42 _ _
      refine mjGo.run 2 (pc' := 2) (F' := ([some (.ref (27 + 2 * e)), some (.int v), some (.int ((nI (3 * j)) + 3)), some (.int (xTho v (f (3 * j)) (f (3 * j + 1))))], [], mjH I X)) (fun _ => rfl) ?_
      have k9 := ih (j + 1) (some (.int (xTho v (f (3 * j)) (f (3 * j + 1))))) (by omega)
      rw [show nI (3 * (j + 1)) = nI (3 * j) + 3 from (nI_add _ 3).symm] at k9
      rw [alB_t (show cbB f v j = true from decide_eq_true q1)]
      exact k9
    · show mjGo _ _ 40 _ _
      rw [alB_f (show cbB f v j = false from decide_eq_false q1)]
      exact mjGo.ret 2 (fun _ => rfl) rfl
theorem c_xCb (d : Nat) {v : Int32} {e sz m : Nat} {f : Nat → Int32} {I : Nat → Nat → Int32} {X : MX} (he : e < 8) (hz : I (27 + 2 * e) 2 = nI sz) (hs : sz ≤ 100) (hm : sz = 3 * m) (hf : ∀ j, j < sz → I (28 + 2 * e) j = f j) : mjEv (d + 2) nyX11_couldBe [.ref (27 + 2 * e), .int v] (mjH I X) (.inl (some (.int (bI (alB (cbB f v) m 0))))) (mjH I X) := by
  refine mjEv.of ?_
  refine mjGo.run 2 (pc' := 2) (F' := ([some (.ref (27 + 2 * e)), some (.int v), some (.int (nI (3 * 0))), none], [], mjH I X)) (fun _ => rfl) ?_
  exact x_cb_loop (d := d) he hz hs hm hf m 0 none (by omega)
theorem x_lr_loop {q : Int32} {d e sz m : Nat} {f : Nat → Int32} {I : Nat → Nat → Int32} {X : MX} (he : e < 8) (hz : I (27 + 2 * e) 2 = nI sz) (hs : sz ≤ 100) (hm : sz = 3 * m) (hf : ∀ j, j < sz → I (28 + 2 * e) j = f j) : ∀ (k j n a b : Nat) (cl cg : Int32), j + k = 41 → n ≤ j → (n = 0 → cl = -4 ∧ cg = -4) → (n ≠ 0 → cl = nI a ∧ cg = nI b) →
    mjGo (d + 3) nyX11_learn 58 ([some (.ref 0), some (.int (nI e)), some (.int q), some (.int 0), some (.ref (27 + 2 * e)), some (.int (nI n)), some (.int cl), some (.int cg), some (.int (vI j))], [], mjH I X) (fun x => x = (.inl (some (.int (lrV (fun j => alB (cbB f (vI j)) m 0) q k j n a b))), mjH I X)) := by
  intro k
  induction k with
  | zero =>
    intro j n a b cl cg hj hn h0 h1
    refine mjGo.run 2 (pc' := 62) (F' := ([some (.ref 0), some (.int (nI e)), some (.int q), some (.int 0), some (.ref (27 + 2 * e)), some (.int (nI n)), some (.int cl), some (.int cg), some (.int (vI j))], [.int 20, .int (vI j)], mjH I X)) (fun _ => rfl) ?_
    refine mjGo.run 1 (pc' := (bif decide (20 < (vI j)) then 106 else 65)) (F' := ([some (.ref 0), some (.int (nI e)), some (.int q), some (.int 0), some (.ref (27 + 2 * e)), some (.int (nI n)), some (.int cl), some (.int cg), some (.int (vI j))], [], mjH I X)) (fun _ => rfl) ?_
    refine mjGo.brT ((vI_lt (by omega)).mpr (by omega)) ?_
    show mjGo _ _ 106 _ _
    refine mjGo.run 2 (pc' := (bif decide (q ≠ 0) then 115 else 110)) (F' := ([some (.ref 0), some (.int (nI e)), some (.int q), some (.int 0), some (.ref (27 + 2 * e)), some (.int (nI n)), some (.int cl), some (.int cg), some (.int (vI j))], [], mjH I X)) (fun _ => rfl) ?_
    refine mjGo.br (fun q1 => ?_) (fun q1 => ?_)
    · show mjGo _ _ 115 _ _
      refine mjGo.run 3 (pc' := (bif decide (q ≠ 1) then 125 else 120)) (F' := ([some (.ref 0), some (.int (nI e)), some (.int q), some (.int 0), some (.ref (27 + 2 * e)), some (.int (nI n)), some (.int cl), some (.int cg), some (.int (vI j))], [], mjH I X)) (fun _ => rfl) ?_
      refine mjGo.br (fun q2 => ?_) (fun q2 => ?_)
      · show mjGo _ _ 125 _ _
        have e9 : lrV (fun j => alB (cbB f (vI j)) m 0) q 0 j n a b = cg := by
          rw [lrV, if_neg q1]
          by_cases w : n = 0
          · rw [if_pos w, (h0 w).2]
          · rw [if_neg w, if_neg q2, (h1 w).2]
        rw [e9]
        exact mjGo.ret 2 (fun _ => rfl) rfl
      · show mjGo _ _ 120 _ _
        have e9 : lrV (fun j => alB (cbB f (vI j)) m 0) q 0 j n a b = cl := by
          rw [lrV, if_neg q1]
          by_cases w : n = 0
          · rw [if_pos w, (h0 w).1]
          · rw [if_neg w, if_pos (Decidable.not_not.mp q2), (h1 w).1]
        rw [e9]
        exact mjGo.ret 3 (fun _ => rfl) rfl
    · show mjGo _ _ 110 _ _
      have e9 : lrV (fun j => alB (cbB f (vI j)) m 0) q 0 j n a b = nI n := by rw [lrV, if_pos (Decidable.not_not.mp q1)]
      rw [e9]
      exact mjGo.ret 3 (fun _ => rfl) rfl
  | succ k ih =>
    intro j n a b cl cg hj hn h0 h1
    have hj2 : j < 42 := by omega
    refine mjGo.run 2 (pc' := 62) (F' := ([some (.ref 0), some (.int (nI e)), some (.int q), some (.int 0), some (.ref (27 + 2 * e)), some (.int (nI n)), some (.int cl), some (.int cg), some (.int (vI j))], [.int 20, .int (vI j)], mjH I X)) (fun _ => rfl) ?_
    refine mjGo.run 1 (pc' := (bif decide (20 < (vI j)) then 106 else 65)) (F' := ([some (.ref 0), some (.int (nI e)), some (.int q), some (.int 0), some (.ref (27 + 2 * e)), some (.int (nI n)), some (.int cl), some (.int cg), some (.int (vI j))], [], mjH I X)) (fun _ => rfl) ?_
    refine mjGo.brF (by rw [vI_lt hj2]; omega) ?_
    show mjGo _ _ 65 _ _
    refine mjGo.run 2 (pc' := 69) (F' := ([some (.ref 0), some (.int (nI e)), some (.int q), some (.int 0), some (.ref (27 + 2 * e)), some (.int (nI n)), some (.int cl), some (.int cg), some (.int (vI j))], [.int (vI j), .ref (27 + 2 * e)], mjH I X)) (fun _ => rfl) ?_
    refine mjGo.call (n := 2) (j := 105) (nx := 72) (o := some (.int (bI (alB (cbB f (vI j)) m 0)))) (h' := mjH I X) (fun _ => rfl) (c_xCb _ he hz hs hm hf) ?_
    show mjGo _ _ 72 ([some (.ref 0), some (.int (nI e)), some (.int q), some (.int 0), some (.ref (27 + 2 * e)), some (.int (nI n)), some (.int cl), some (.int cg), some (.int (vI j))], [.int (bI (alB (cbB f (vI j)) m 0))], mjH I X) _
    refine mjGo.run 1 (pc' := (bif decide ((bI (alB (cbB f (vI j)) m 0)) ≠ 0) then 78 else 75)) (F' := ([some (.ref 0), some (.int (nI e)), some (.int q), some (.int 0), some (.ref (27 + 2 * e)), some (.int (nI n)), some (.int cl), some (.int cg), some (.int (vI j))], [], mjH I X)) (fun _ => rfl) ?_
    refine mjGo.br (fun q1 => ?_) (fun q1 => ?_)
    · show mjGo _ _ 78 _ _
      refine mjGo.run 2 (pc' := (bif decide ((nI n) ≠ 0) then 90 else 83)) (F' := ([some (.ref 0), some (.int (nI e)), some (.int q), some (.int 0), some (.ref (27 + 2 * e)), some (.int (nI n)), some (.int cl), some (.int cg), some (.int (vI j))], [], mjH I X)) (fun _ => rfl) ?_
      refine mjGo.br (fun q2 => ?_) (fun q2 => ?_)
      · show mjGo _ _ 90 _ _
        refine mjGo.run 7 (pc' := 58) (F' := ([some (.ref 0), some (.int (nI e)), some (.int q), some (.int 0), some (.ref (27 + 2 * e)), some (.int ((nI n) + 1)), some (.int cl), some (.int ((vI j) + 20)), some (.int ((vI j) + 1))], [], mjH I X)) (fun _ => rfl) ?_
        have q9 : alB (cbB f (vI j)) m 0 = true := bI_y.mp q1
        have w : n ≠ 0 := by have q8 := q2; rw [ne_eq, show (0 : Int32) = nI 0 from rfl, nI_eq (by omega) (by omega)] at q8; exact q8
        have k9 := ih (j + 1) (n + 1) a j cl (nI j) (by omega) (by omega) (fun w2 => absurd w2 (by omega)) (fun _ => ⟨(h1 w).1, rfl⟩)
        rw [← vI_1 hj2, ← nI_1, show nI j = vI j + 20 from (vI_20 hj2).symm] at k9
        rw [lrV, q9, if_pos rfl, if_neg w]
        exact k9
      · show mjGo _ _ 83 _ _
        refine mjGo.run 11 (pc' := 58) (F' := ([some (.ref 0), some (.int (nI e)), some (.int q), some (.int 0), some (.ref (27 + 2 * e)), some (.int ((nI n) + 1)), some (.int ((vI j) + 20)), some (.int ((vI j) + 20)), some (.int ((vI j) + 1))], [], mjH I X)) (fun _ => rfl) ?_
        have q9 : alB (cbB f (vI j)) m 0 = true := bI_y.mp q1
        have w : n = 0 := by have q8 := Decidable.not_not.mp q2; rw [show (0 : Int32) = nI 0 from rfl, nI_eq (by omega) (by omega)] at q8; exact q8
        have k9 := ih (j + 1) (n + 1) j j (nI j) (nI j) (by omega) (by omega) (fun w2 => absurd w2 (by omega)) (fun _ => ⟨rfl, rfl⟩)
        rw [← vI_1 hj2, ← nI_1, show nI j = vI j + 20 from (vI_20 hj2).symm] at k9
        rw [lrV, q9, if_pos rfl, if_pos w]
        exact k9
    · show mjGo _ _ 75 _ _
      refine mjGo.run 3 (pc' := 58) (F' := ([some (.ref 0), some (.int (nI e)), some (.int q), some (.int 0), some (.ref (27 + 2 * e)), some (.int (nI n)), some (.int cl), some (.int cg), some (.int ((vI j) + 1))], [], mjH I X)) (fun _ => rfl) ?_
      have k9 := ih (j + 1) n a b cl cg (by omega) (by omega) h0 h1
      rw [← vI_1 hj2] at k9
      have q9 : alB (cbB f (vI j)) m 0 = false := bI_n.mp (Decidable.not_not.mp q1)
      rw [lrV, q9, if_neg (by decide)]
      exact k9
