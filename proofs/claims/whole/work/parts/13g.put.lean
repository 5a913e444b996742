/-! put -/
def cvS (s v : Int32) : Int32 := if s ≠ 0 then (if s ≠ 1 then v else v.toInt16.toInt32) else v.toInt8.toInt32
theorem nI_mul (a b : Nat) : nI a * nI b = nI (a * b) := (Int32.ofNat_mul a b).symm
theorem idx_eq {e j : Nat} : (100 * nI e + nI j : Int32) = nI (100 * e + j) := by
  rw [show (100 : Int32) = nI 100 from rfl, nI_mul, nI_add]
theorem xHasP_1 {I : Nat → Nat → Int32} {e sz j : Nat} (h : I (27 + 2 * e) 2 = nI sz) (hs : sz ≤ 100) (hj : j < sz) : xHasP I e (nI j) = 1 := by
  unfold xHasP
  rw [if_neg (nI_pos (by omega)), if_neg (by rw [show (100 : Int32) = nI 100 from rfl, nI_leI (by omega) (by omega)]; omega), h, if_neg (by rw [nI_leI (by omega) (by omega)]; omega)]
theorem xHasP_0 {I : Nat → Nat → Int32} {e sz : Nat} {v : Int32} (h : I (27 + 2 * e) 2 = nI sz) (hs : sz ≤ 100) (hv : mIn v 0 (nI sz - 1) = 0) : xHasP I e v = 0 := by
  refine Decidable.not_not.mp fun q => ?_
  obtain ⟨j, hj, rfl, h3⟩ := xHasP_n q
  rw [h, nI_leI (by omega) (by omega)] at h3
  rw [mIn_yes (by omega) (by omega)] at hv
  exact absurd hv (by decide)
theorem c_putIn (d : Nat) {e sz j : Nat} {v : Int32} {I : Nat → Nat → Int32} {X : MX} (he : e < 8) (hz : I (27 + 2 * e) 2 = nI sz) (hs : sz ≤ 100) (hj : j < sz) : mjEv (d + 1) nyX6_putIn [.ref (27 + 2 * e), .int (nI j), .int v] (mjH I X) (.inl none) (mjH (mjU I (28 + 2 * e) j (cvS (I (27 + 2 * e) 1) v)) X) := by
  have hp := xHasP_1 hz hs hj
  refine mjEv.of ?_
  show mjGo (d + 1) nyX6_putIn 0 ([some (.ref (27 + 2 * e)), some (.int (nI j)), some (.int v)], [], mjH I X) _
  refine mjGo.run 2 (pc' := 2) (F' := ([some (.ref (27 + 2 * e)), some (.int (nI j)), some (.int v)], [.int (nI j), .ref (27 + 2 * e)], mjH I X)) (fun _ => rfl) ?_
  refine mjGo.callL (o := some (.int 1)) (h' := mjH I X) (nx := 5) rfl rfl rfl ((row_N he).1) ⟨_, row_lk he, (by have q9 := c_xHasP d (I := I) (X := X) e (nI j) he; rw [hp] at q9; exact q9)⟩ ?_
  show mjGo _ _ 5 ([some (.ref (27 + 2 * e)), some (.int (nI j)), some (.int v)], [.int 1], mjH I X) _
  refine mjGo.run 2 (pc' := 10) (F' := ([some (.ref (27 + 2 * e)), some (.int (nI j)), some (.int v)], [.ref (27 + 2 * e)], mjH I X)) (fun _ => rfl) ?_
  refine mjGo.op (pc' := 13) (F' := ([some (.ref (27 + 2 * e)), some (.int (nI j)), some (.int v)], [.ref (28 + 2 * e)], mjH I X)) (o := mjgetP [6] 0 13) rfl (fun _ => row_getP he) ?_
  refine mjGo.run 2 (pc' := 15) (F' := ([some (.ref (27 + 2 * e)), some (.int (nI j)), some (.int v)], [.ref (27 + 2 * e), .int (nI j), .ref (28 + 2 * e)], mjH I X)) (fun _ => rfl) ?_
  refine mjGo.op (pc' := 18) (F' := ([some (.ref (27 + 2 * e)), some (.int (nI j)), some (.int v)], [.int (I (27 + 2 * e) 1), .int (nI j), .ref (28 + 2 * e)], mjH I X)) (o := mjgetI [6] 1 18) rfl (fun _ => row_getI he) ?_
  refine mjGo.run 1 (pc' := (bif decide ((I (27 + 2 * e) 1) ≠ 0) then 26 else 21)) (F' := ([some (.ref (27 + 2 * e)), some (.int (nI j)), some (.int v)], [.int (nI j), .ref (28 + 2 * e)], mjH I X)) (fun _ => rfl) ?_
  refine mjGo.br (fun q1 => ?_) (fun q1 => ?_)
  · show mjGo _ _ 26 _ _
    refine mjGo.run 1 (pc' := 27) (F' := ([some (.ref (27 + 2 * e)), some (.int (nI j)), some (.int v)], [.ref (27 + 2 * e), .int (nI j), .ref (28 + 2 * e)], mjH I X)) (fun _ => rfl) ?_
    refine mjGo.op (pc' := 30) (F' := ([some (.ref (27 + 2 * e)), some (.int (nI j)), some (.int v)], [.int (I (27 + 2 * e) 1), .int (nI j), .ref (28 + 2 * e)], mjH I X)) (o := mjgetI [6] 1 30) rfl (fun _ => row_getI he) ?_
    refine mjGo.run 2 (pc' := (bif decide ((I (27 + 2 * e) 1) ≠ 1) then 39 else 34)) (F' := ([some (.ref (27 + 2 * e)), some (.int (nI j)), some (.int v)], [.int (nI j), .ref (28 + 2 * e)], mjH I X)) (fun _ => rfl) ?_
    refine mjGo.br (fun q2 => ?_) (fun q2 => ?_)
    · show mjGo _ _ 39 _ _
      refine mjGo.run 1 (pc' := 40) (F' := ([some (.ref (27 + 2 * e)), some (.int (nI j)), some (.int v)], [.int v, .int (nI j), .ref (28 + 2 * e)], mjH I X)) (fun _ => rfl) ?_
      refine mjGo.op (pc' := 41) (F' := ([some (.ref (27 + 2 * e)), some (.int (nI j)), some (.int v)], [], mjH (mjU I (28 + 2 * e) j v) X)) (o := mjiast 41) rfl (fun _ => mjast_n (n := 100) (by omega) (by decide) ((row_arr he).1) ((row_arr he).2)) ?_
      have e9 : cvS (I (27 + 2 * e) 1) v = v := by unfold cvS; rw [if_pos q1, if_pos q2]
      rw [e9]
      exact mjGo.ret 1 (fun _ => rfl) rfl
    · show mjGo _ _ 34 _ _
      refine mjGo.run 3 (pc' := 40) (F' := ([some (.ref (27 + 2 * e)), some (.int (nI j)), some (.int v)], [.int (v.toInt16.toInt32), .int (nI j), .ref (28 + 2 * e)], mjH I X)) (fun _ => rfl) ?_
      refine mjGo.op (pc' := 41) (F' := ([some (.ref (27 + 2 * e)), some (.int (nI j)), some (.int v)], [], mjH (mjU I (28 + 2 * e) j (v.toInt16.toInt32)) X)) (o := mjiast 41) rfl (fun _ => mjast_n (n := 100) (by omega) (by decide) ((row_arr he).1) ((row_arr he).2)) ?_
      have e9 : cvS (I (27 + 2 * e) 1) v = (v.toInt16.toInt32) := by unfold cvS; rw [if_pos q1, if_neg q2]
      rw [e9]
      exact mjGo.ret 1 (fun _ => rfl) rfl
  · show mjGo _ _ 21 _ _
    refine mjGo.run 3 (pc' := 40) (F' := ([some (.ref (27 + 2 * e)), some (.int (nI j)), some (.int v)], [.int (v.toInt8.toInt32), .int (nI j), .ref (28 + 2 * e)], mjH I X)) (fun _ => rfl) ?_
    refine mjGo.op (pc' := 41) (F' := ([some (.ref (27 + 2 * e)), some (.int (nI j)), some (.int v)], [], mjH (mjU I (28 + 2 * e) j (v.toInt8.toInt32)) X)) (o := mjiast 41) rfl (fun _ => mjast_n (n := 100) (by omega) (by decide) ((row_arr he).1) ((row_arr he).2)) ?_
    have e9 : cvS (I (27 + 2 * e) 1) v = (v.toInt8.toInt32) := by unfold cvS; rw [if_neg q1]
    rw [e9]
    exact mjGo.ret 1 (fun _ => rfl) rfl
theorem c_xPutA (d : Nat) {q w v : Int32} {I : Nat → Nat → Int32} {X : MX} (hs : xShelf q = 0) : mjEv (d + 3) nyX11_put [.ref 0, .int q, .int w, .int v] (mjH I X) (.inl (some (.int (-1)))) (mjH I X) := by
  refine mjEv.of ?_
  show mjGo (d + 3) nyX11_put 0 ([some (.ref 0), some (.int q), some (.int w), some (.int v), none, none], [], mjH I X) _
  refine mjGo.run 3 (pc' := 3) (F' := ([some (.ref 0), some (.int q), some (.int w), some (.int v), none, none], [.int (-1), .int q, .ref 0], mjH I X)) (fun _ => rfl) ?_
  refine mjGo.call (n := 3) (j := 78) (nx := 6) (o := some (.int (-1))) (h' := mjH I X) (fun _ => rfl) (c_rrA _ hs) ?_
  show mjGo _ _ 6 ([some (.ref 0), some (.int q), some (.int w), some (.int v), none, none], [.int (-1)], mjH I X) _
  exact mjGo.ret 5 (fun _ => rfl) rfl
theorem c_xPutB (d : Nat) {e : Nat} {w v : Int32} {I : Nat → Nat → Int32} {X : MX} (he : e < 8) (hh : I 24 e = 0) : mjEv (d + 3) nyX11_put [.ref 0, .int (nI e), .int w, .int v] (mjH I X) (.inl (some (.int (-11)))) (mjH I X) := by
  refine mjEv.of ?_
  show mjGo (d + 3) nyX11_put 0 ([some (.ref 0), some (.int (nI e)), some (.int w), some (.int v), none, none], [], mjH I X) _
  refine mjGo.run 3 (pc' := 3) (F' := ([some (.ref 0), some (.int (nI e)), some (.int w), some (.int v), none, none], [.int (-1), .int (nI e), .ref 0], mjH I X)) (fun _ => rfl) ?_
  refine mjGo.call (n := 3) (j := 78) (nx := 6) (o := some (.int (-11))) (h' := mjH I X) (fun _ => rfl) (c_rrB _ he hh) ?_
  show mjGo _ _ 6 ([some (.ref 0), some (.int (nI e)), some (.int w), some (.int v), none, none], [.int (-11)], mjH I X) _
  exact mjGo.ret 5 (fun _ => rfl) rfl
theorem c_xPutC (d : Nat) {e : Nat} {w v : Int32} {I : Nat → Nat → Int32} {X : MX} (he : e < 8) (hh : I 24 e = 1) : mjEv (d + 3) nyX11_put [.ref 0, .int (nI e), .int w, .int v] (mjH I X) (.inl (some (.int (-12)))) (mjH I X) := by
  refine mjEv.of ?_
  show mjGo (d + 3) nyX11_put 0 ([some (.ref 0), some (.int (nI e)), some (.int w), some (.int v), none, none], [], mjH I X) _
  refine mjGo.run 3 (pc' := 3) (F' := ([some (.ref 0), some (.int (nI e)), some (.int w), some (.int v), none, none], [.int (-1), .int (nI e), .ref 0], mjH I X)) (fun _ => rfl) ?_
  refine mjGo.call (n := 3) (j := 78) (nx := 6) (o := some (.int (-12))) (h' := mjH I X) (fun _ => rfl) (c_rrC _ he hh) ?_
  show mjGo _ _ 6 ([some (.ref 0), some (.int (nI e)), some (.int w), some (.int v), none, none], [.int (-12)], mjH I X) _
  exact mjGo.ret 5 (fun _ => rfl) rfl
theorem c_xPutD (d : Nat) {e sz : Nat} {w v : Int32} {I : Nat → Nat → Int32} {X : MX} (he : e < 8) (hh : I 24 e = 2) (hz : I (27 + 2 * e) 2 = nI sz) (hs : sz ≤ 100) (hv : mIn w 0 (nI sz - 1) = 0) : mjEv (d + 3) nyX11_put [.ref 0, .int (nI e), .int w, .int v] (mjH I X) (.inl (some (.int (-13)))) (mjH I X) := by
  have hp := xHasP_0 hz hs hv
  refine mjEv.of ?_
  show mjGo (d + 3) nyX11_put 0 ([some (.ref 0), some (.int (nI e)), some (.int w), some (.int v), none, none], [], mjH I X) _
  refine mjGo.run 3 (pc' := 3) (F' := ([some (.ref 0), some (.int (nI e)), some (.int w), some (.int v), none, none], [.int (-1), .int (nI e), .ref 0], mjH I X)) (fun _ => rfl) ?_
  refine mjGo.call (n := 3) (j := 78) (nx := 6) (o := some (.int 0)) (h' := mjH I X) (fun _ => rfl) (c_rrD _ he hh) ?_
  show mjGo _ _ 6 ([some (.ref 0), some (.int (nI e)), some (.int w), some (.int v), none, none], [.int 0], mjH I X) _
  refine mjGo.run 6 (pc' := 21) (F' := ([some (.ref 0), some (.int (nI e)), some (.int w), some (.int v), some (.int 0), none], [.int (nI e), .ref 26], mjH I X)) (fun _ => rfl) ?_
  refine mjGo.op (pc' := 22) (F' := ([some (.ref 0), some (.int (nI e)), some (.int w), some (.int v), some (.int 0), none], [.ref (27 + 2 * e)], mjH I X)) (o := mjaald 15 22) rfl (fun _ => row_aald he) ?_
  refine mjGo.run 3 (pc' := 27) (F' := ([some (.ref 0), some (.int (nI e)), some (.int w), some (.int v), some (.int 0), some (.ref (27 + 2 * e))], [.int w, .ref (27 + 2 * e)], mjH I X)) (fun _ => rfl) ?_
  refine mjGo.callL (o := some (.int 0)) (h' := mjH I X) (nx := 30) rfl rfl rfl ((row_N he).1) ⟨_, row_lk he, (by have q9 := c_xHasP (d + 2) (I := I) (X := X) e w he; rw [hp] at q9; exact q9)⟩ ?_
  show mjGo _ _ 30 ([some (.ref 0), some (.int (nI e)), some (.int w), some (.int v), some (.int 0), some (.ref (27 + 2 * e))], [.int 0], mjH I X) _
  exact mjGo.ret 3 (fun _ => rfl) rfl
theorem c_xPutE (d : Nat) {e sz j : Nat} {v : Int32} {I : Nat → Nat → Int32} {X : MX} (he : e < 8) (hh : I 24 e = 2) (hz : I (27 + 2 * e) 2 = nI sz) (hs : sz ≤ 100) (hj : j < sz) : mjEv (d + 3) nyX11_put [.ref 0, .int (nI e), .int (nI j), .int v] (mjH I X) (.inl (some (.int 0))) (mjH (mjU I (28 + 2 * e) j (cvS (I (27 + 2 * e) 1) v)) X) := by
  have hp := xHasP_1 hz hs hj
  refine mjEv.of ?_
  show mjGo (d + 3) nyX11_put 0 ([some (.ref 0), some (.int (nI e)), some (.int (nI j)), some (.int v), none, none], [], mjH I X) _
  refine mjGo.run 3 (pc' := 3) (F' := ([some (.ref 0), some (.int (nI e)), some (.int (nI j)), some (.int v), none, none], [.int (-1), .int (nI e), .ref 0], mjH I X)) (fun _ => rfl) ?_
  refine mjGo.call (n := 3) (j := 78) (nx := 6) (o := some (.int 0)) (h' := mjH I X) (fun _ => rfl) (c_rrD _ he hh) ?_
  show mjGo _ _ 6 ([some (.ref 0), some (.int (nI e)), some (.int (nI j)), some (.int v), none, none], [.int 0], mjH I X) _
  refine mjGo.run 6 (pc' := 21) (F' := ([some (.ref 0), some (.int (nI e)), some (.int (nI j)), some (.int v), some (.int 0), none], [.int (nI e), .ref 26], mjH I X)) (fun _ => rfl) ?_
  refine mjGo.op (pc' := 22) (F' := ([some (.ref 0), some (.int (nI e)), some (.int (nI j)), some (.int v), some (.int 0), none], [.ref (27 + 2 * e)], mjH I X)) (o := mjaald 15 22) rfl (fun _ => row_aald he) ?_
  refine mjGo.run 3 (pc' := 27) (F' := ([some (.ref 0), some (.int (nI e)), some (.int (nI j)), some (.int v), some (.int 0), some (.ref (27 + 2 * e))], [.int (nI j), .ref (27 + 2 * e)], mjH I X)) (fun _ => rfl) ?_
  refine mjGo.callL (o := some (.int 1)) (h' := mjH I X) (nx := 30) rfl rfl rfl ((row_N he).1) ⟨_, row_lk he, (by have q9 := c_xHasP (d + 2) (I := I) (X := X) e (nI j) he; rw [hp] at q9; exact q9)⟩ ?_
  show mjGo _ _ 30 ([some (.ref 0), some (.int (nI e)), some (.int (nI j)), some (.int v), some (.int 0), some (.ref (27 + 2 * e))], [.int 1], mjH I X) _
  refine mjGo.run 4 (pc' := 40) (F' := ([some (.ref 0), some (.int (nI e)), some (.int (nI j)), some (.int v), some (.int 0), some (.ref (27 + 2 * e))], [.int v, .int (nI j), .ref (27 + 2 * e)], mjH I X)) (fun _ => rfl) ?_
  refine mjGo.callL (o := none) (h' := mjH (mjU I (28 + 2 * e) j (cvS (I (27 + 2 * e) 1) v)) X) (nx := 43) rfl rfl rfl ((row_N he).1) ⟨_, row_lk he, c_putIn _ he hz hs hj⟩ ?_
  show mjGo _ _ 43 ([some (.ref 0), some (.int (nI e)), some (.int (nI j)), some (.int v), some (.int 0), some (.ref (27 + 2 * e))], [], mjH (mjU I (28 + 2 * e) j (cvS (I (27 + 2 * e) 1) v)) X) _
  exact mjGo.ret 2 (fun _ => rfl) rfl
theorem c_mPutA (d : Nat) {q w v : Int32} {I : Nat → Nat → Int32} {X : MX} (hs : mIn q 0 7 = 0) : mjEv (d + 2) nyX12_put [.ref 43, .int q, .int w, .int v] (mjH I X) (.inl (some (.int (-1)))) (mjH I X) := by
  refine mjEv.of ?_
  show mjGo (d + 2) nyX12_put 0 ([some (.ref 43), some (.int q), some (.int w), some (.int v)], [], mjH I X) _
  refine mjGo.run 3 (pc' := 4) (F' := ([some (.ref 43), some (.int q), some (.int w), some (.int v)], [.int 7, .int 0, .int q], mjH I X)) (fun _ => rfl) ?_
  refine mjGo.call (n := 3) (j := 132) (nx := 7) (o := some (.int 0)) (h' := mjH I X) (fun _ => rfl) ((by have q9 := c_mIn (d + 1) q 0 7 (mjH I X); rw [hs] at q9; exact q9)) ?_
  show mjGo _ _ 7 ([some (.ref 43), some (.int q), some (.int w), some (.int v)], [.int 0], mjH I X) _
  exact mjGo.ret 3 (fun _ => rfl) rfl
theorem c_mPutB (d : Nat) {e : Nat} {w v : Int32} {I : Nat → Nat → Int32} {X : MX} (he : e < 8) (hh : I 66 e = 0) : mjEv (d + 2) nyX12_put [.ref 43, .int (nI e), .int w, .int v] (mjH I X) (.inl (some (.int (-11)))) (mjH I X) := by
  refine mjEv.of ?_
  show mjGo (d + 2) nyX12_put 0 ([some (.ref 43), some (.int (nI e)), some (.int w), some (.int v)], [], mjH I X) _
  refine mjGo.run 3 (pc' := 4) (F' := ([some (.ref 43), some (.int (nI e)), some (.int w), some (.int v)], [.int 7, .int 0, .int (nI e)], mjH I X)) (fun _ => rfl) ?_
  refine mjGo.call (n := 3) (j := 132) (nx := 7) (o := some (.int 1)) (h' := mjH I X) (fun _ => rfl) ((by have q9 := c_mIn (d + 1) (nI e) 0 7 (mjH I X); rw [mShelf_1 he] at q9; exact q9)) ?_
  show mjGo _ _ 7 ([some (.ref 43), some (.int (nI e)), some (.int w), some (.int v)], [.int 1], mjH I X) _
  refine mjGo.run 4 (pc' := 17) (F' := ([some (.ref 43), some (.int (nI e)), some (.int w), some (.int v)], [.int (nI e), .ref 66], mjH I X)) (fun _ => rfl) ?_
  refine mjGo.op (pc' := 18) (F' := ([some (.ref 43), some (.int (nI e)), some (.int w), some (.int v)], [.int (I 66 e)], mjH I X)) (o := mjiald 18) rfl (fun _ => mjald_n (n := 8) (by omega) (by decide) (rfl) (rfl)) ?_
  refine mjGo.run 0 (pc' := 18) (F' := ([some (.ref 43), some (.int (nI e)), some (.int w), some (.int v)], [.int (I 66 e)], mjH I X)) (fun _ => rfl) ?_
  rw [hh]
  exact mjGo.ret 3 (fun _ => rfl) rfl
theorem c_mPutC (d : Nat) {e : Nat} {w v : Int32} {I : Nat → Nat → Int32} {X : MX} (he : e < 8) (hh : I 66 e = 1) : mjEv (d + 2) nyX12_put [.ref 43, .int (nI e), .int w, .int v] (mjH I X) (.inl (some (.int (-12)))) (mjH I X) := by
  refine mjEv.of ?_
  show mjGo (d + 2) nyX12_put 0 ([some (.ref 43), some (.int (nI e)), some (.int w), some (.int v)], [], mjH I X) _
  refine mjGo.run 3 (pc' := 4) (F' := ([some (.ref 43), some (.int (nI e)), some (.int w), some (.int v)], [.int 7, .int 0, .int (nI e)], mjH I X)) (fun _ => rfl) ?_
  refine mjGo.call (n := 3) (j := 132) (nx := 7) (o := some (.int 1)) (h' := mjH I X) (fun _ => rfl) ((by have q9 := c_mIn (d + 1) (nI e) 0 7 (mjH I X); rw [mShelf_1 he] at q9; exact q9)) ?_
  show mjGo _ _ 7 ([some (.ref 43), some (.int (nI e)), some (.int w), some (.int v)], [.int 1], mjH I X) _
  refine mjGo.run 4 (pc' := 17) (F' := ([some (.ref 43), some (.int (nI e)), some (.int w), some (.int v)], [.int (nI e), .ref 66], mjH I X)) (fun _ => rfl) ?_
  refine mjGo.op (pc' := 18) (F' := ([some (.ref 43), some (.int (nI e)), some (.int w), some (.int v)], [.int (I 66 e)], mjH I X)) (o := mjiald 18) rfl (fun _ => mjald_n (n := 8) (by omega) (by decide) (rfl) (rfl)) ?_
  refine mjGo.run 0 (pc' := 18) (F' := ([some (.ref 43), some (.int (nI e)), some (.int w), some (.int v)], [.int (I 66 e)], mjH I X)) (fun _ => rfl) ?_
  rw [hh]
  refine mjGo.run 4 (pc' := 29) (F' := ([some (.ref 43), some (.int (nI e)), some (.int w), some (.int v)], [.int (nI e), .ref 66], mjH I X)) (fun _ => rfl) ?_
  refine mjGo.op (pc' := 30) (F' := ([some (.ref 43), some (.int (nI e)), some (.int w), some (.int v)], [.int (I 66 e)], mjH I X)) (o := mjiald 30) rfl (fun _ => mjald_n (n := 8) (by omega) (by decide) (rfl) (rfl)) ?_
  refine mjGo.run 0 (pc' := 30) (F' := ([some (.ref 43), some (.int (nI e)), some (.int w), some (.int v)], [.int (I 66 e)], mjH I X)) (fun _ => rfl) ?_
  rw [hh]
  exact mjGo.ret 4 (fun _ => rfl) rfl
theorem c_mPutD (d : Nat) {e sz : Nat} {w v : Int32} {I : Nat → Nat → Int32} {X : MX} (he : e < 8) (hh : I 66 e = 2) (hz : I 68 e = nI sz) (hs : sz ≤ 100) (hv : mIn w 0 (nI sz - 1) = 0) : mjEv (d + 2) nyX12_put [.ref 43, .int (nI e), .int w, .int v] (mjH I X) (.inl (some (.int (-13)))) (mjH I X) := by
  refine mjEv.of ?_
  show mjGo (d + 2) nyX12_put 0 ([some (.ref 43), some (.int (nI e)), some (.int w), some (.int v)], [], mjH I X) _
  refine mjGo.run 3 (pc' := 4) (F' := ([some (.ref 43), some (.int (nI e)), some (.int w), some (.int v)], [.int 7, .int 0, .int (nI e)], mjH I X)) (fun _ => rfl) ?_
  refine mjGo.call (n := 3) (j := 132) (nx := 7) (o := some (.int 1)) (h' := mjH I X) (fun _ => rfl) ((by have q9 := c_mIn (d + 1) (nI e) 0 7 (mjH I X); rw [mShelf_1 he] at q9; exact q9)) ?_
  show mjGo _ _ 7 ([some (.ref 43), some (.int (nI e)), some (.int w), some (.int v)], [.int 1], mjH I X) _
  refine mjGo.run 4 (pc' := 17) (F' := ([some (.ref 43), some (.int (nI e)), some (.int w), some (.int v)], [.int (nI e), .ref 66], mjH I X)) (fun _ => rfl) ?_
  refine mjGo.op (pc' := 18) (F' := ([some (.ref 43), some (.int (nI e)), some (.int w), some (.int v)], [.int (I 66 e)], mjH I X)) (o := mjiald 18) rfl (fun _ => mjald_n (n := 8) (by omega) (by decide) (rfl) (rfl)) ?_
  refine mjGo.run 0 (pc' := 18) (F' := ([some (.ref 43), some (.int (nI e)), some (.int w), some (.int v)], [.int (I 66 e)], mjH I X)) (fun _ => rfl) ?_
  rw [hh]
  refine mjGo.run 4 (pc' := 29) (F' := ([some (.ref 43), some (.int (nI e)), some (.int w), some (.int v)], [.int (nI e), .ref 66], mjH I X)) (fun _ => rfl) ?_
  refine mjGo.op (pc' := 30) (F' := ([some (.ref 43), some (.int (nI e)), some (.int w), some (.int v)], [.int (I 66 e)], mjH I X)) (o := mjiald 30) rfl (fun _ => mjald_n (n := 8) (by omega) (by decide) (rfl) (rfl)) ?_
  refine mjGo.run 0 (pc' := 30) (F' := ([some (.ref 43), some (.int (nI e)), some (.int w), some (.int v)], [.int (I 66 e)], mjH I X)) (fun _ => rfl) ?_
  rw [hh]
  refine mjGo.run 7 (pc' := 44) (F' := ([some (.ref 43), some (.int (nI e)), some (.int w), some (.int v)], [.int (nI e), .ref 68, .int 0, .int w], mjH I X)) (fun _ => rfl) ?_
  refine mjGo.op (pc' := 45) (F' := ([some (.ref 43), some (.int (nI e)), some (.int w), some (.int v)], [.int (I 68 e), .int 0, .int w], mjH I X)) (o := mjiald 45) rfl (fun _ => mjald_n (n := 8) (by omega) (by decide) (rfl) (rfl)) ?_
  refine mjGo.run 2 (pc' := 47) (F' := ([some (.ref 43), some (.int (nI e)), some (.int w), some (.int v)], [.int ((I 68 e) - 1), .int 0, .int w], mjH I X)) (fun _ => rfl) ?_
  refine mjGo.call (n := 3) (j := 132) (nx := 50) (o := some (.int 0)) (h' := mjH I X) (fun _ => rfl) ((by have q9 := c_mIn (d + 1) w 0 ((I 68 e) - 1) (mjH I X); rw [show mIn w 0 (I 68 e - 1) = 0 from (by rw [hz]; exact hv)] at q9; exact q9)) ?_
  show mjGo _ _ 50 ([some (.ref 43), some (.int (nI e)), some (.int w), some (.int v)], [.int 0], mjH I X) _
  exact mjGo.ret 3 (fun _ => rfl) rfl
theorem c_mPutE (d : Nat) {e sz j : Nat} {v : Int32} {I : Nat → Nat → Int32} {X : MX} (he : e < 8) (hh : I 66 e = 2) (hz : I 68 e = nI sz) (hs : sz ≤ 100) (hj : j < sz) : mjEv (d + 2) nyX12_put [.ref 43, .int (nI e), .int (nI j), .int v] (mjH I X) (.inl (some (.int 0))) (mjH (mjU I 69 (100 * e + j) (cvS (I 67 e) v)) X) := by
  refine mjEv.of ?_
  show mjGo (d + 2) nyX12_put 0 ([some (.ref 43), some (.int (nI e)), some (.int (nI j)), some (.int v)], [], mjH I X) _
  refine mjGo.run 3 (pc' := 4) (F' := ([some (.ref 43), some (.int (nI e)), some (.int (nI j)), some (.int v)], [.int 7, .int 0, .int (nI e)], mjH I X)) (fun _ => rfl) ?_
  refine mjGo.call (n := 3) (j := 132) (nx := 7) (o := some (.int 1)) (h' := mjH I X) (fun _ => rfl) ((by have q9 := c_mIn (d + 1) (nI e) 0 7 (mjH I X); rw [mShelf_1 he] at q9; exact q9)) ?_
  show mjGo _ _ 7 ([some (.ref 43), some (.int (nI e)), some (.int (nI j)), some (.int v)], [.int 1], mjH I X) _
  refine mjGo.run 4 (pc' := 17) (F' := ([some (.ref 43), some (.int (nI e)), some (.int (nI j)), some (.int v)], [.int (nI e), .ref 66], mjH I X)) (fun _ => rfl) ?_
  refine mjGo.op (pc' := 18) (F' := ([some (.ref 43), some (.int (nI e)), some (.int (nI j)), some (.int v)], [.int (I 66 e)], mjH I X)) (o := mjiald 18) rfl (fun _ => mjald_n (n := 8) (by omega) (by decide) (rfl) (rfl)) ?_
  refine mjGo.run 0 (pc' := 18) (F' := ([some (.ref 43), some (.int (nI e)), some (.int (nI j)), some (.int v)], [.int (I 66 e)], mjH I X)) (fun _ => rfl) ?_
  rw [hh]
  refine mjGo.run 4 (pc' := 29) (F' := ([some (.ref 43), some (.int (nI e)), some (.int (nI j)), some (.int v)], [.int (nI e), .ref 66], mjH I X)) (fun _ => rfl) ?_
  refine mjGo.op (pc' := 30) (F' := ([some (.ref 43), some (.int (nI e)), some (.int (nI j)), some (.int v)], [.int (I 66 e)], mjH I X)) (o := mjiald 30) rfl (fun _ => mjald_n (n := 8) (by omega) (by decide) (rfl) (rfl)) ?_
  refine mjGo.run 0 (pc' := 30) (F' := ([some (.ref 43), some (.int (nI e)), some (.int (nI j)), some (.int v)], [.int (I 66 e)], mjH I X)) (fun _ => rfl) ?_
  rw [hh]
  refine mjGo.run 7 (pc' := 44) (F' := ([some (.ref 43), some (.int (nI e)), some (.int (nI j)), some (.int v)], [.int (nI e), .ref 68, .int 0, .int (nI j)], mjH I X)) (fun _ => rfl) ?_
  refine mjGo.op (pc' := 45) (F' := ([some (.ref 43), some (.int (nI e)), some (.int (nI j)), some (.int v)], [.int (I 68 e), .int 0, .int (nI j)], mjH I X)) (o := mjiald 45) rfl (fun _ => mjald_n (n := 8) (by omega) (by decide) (rfl) (rfl)) ?_
  refine mjGo.run 2 (pc' := 47) (F' := ([some (.ref 43), some (.int (nI e)), some (.int (nI j)), some (.int v)], [.int ((I 68 e) - 1), .int 0, .int (nI j)], mjH I X)) (fun _ => rfl) ?_
  refine mjGo.call (n := 3) (j := 132) (nx := 50) (o := some (.int 1)) (h' := mjH I X) (fun _ => rfl) ((by have q9 := c_mIn (d + 1) (nI j) 0 ((I 68 e) - 1) (mjH I X); rw [show mIn (nI j) 0 (I 68 e - 1) = 1 from (by rw [hz]; exact mIn_yes hj (by omega))] at q9; exact q9)) ?_
  show mjGo _ _ 50 ([some (.ref 43), some (.int (nI e)), some (.int (nI j)), some (.int v)], [.int 1], mjH I X) _
  refine mjGo.run 11 (pc' := 71) (F' := ([some (.ref 43), some (.int (nI e)), some (.int (nI j)), some (.int v)], [.int (nI e), .ref 67, .int ((100 * (nI e)) + (nI j)), .ref 69], mjH I X)) (fun _ => rfl) ?_
  refine mjGo.op (pc' := 72) (F' := ([some (.ref 43), some (.int (nI e)), some (.int (nI j)), some (.int v)], [.int (I 67 e), .int ((100 * (nI e)) + (nI j)), .ref 69], mjH I X)) (o := mjiald 72) rfl (fun _ => mjald_n (n := 8) (by omega) (by decide) (rfl) (rfl)) ?_
  refine mjGo.run 1 (pc' := (bif decide ((I 67 e) ≠ 0) then 80 else 75)) (F' := ([some (.ref 43), some (.int (nI e)), some (.int (nI j)), some (.int v)], [.int ((100 * (nI e)) + (nI j)), .ref 69], mjH I X)) (fun _ => rfl) ?_
  refine mjGo.br (fun q1 => ?_) (fun q1 => ?_)
  · show mjGo _ _ 80 _ _
    refine mjGo.run 3 (pc' := 85) (F' := ([some (.ref 43), some (.int (nI e)), some (.int (nI j)), some (.int v)], [.int (nI e), .ref 67, .int ((100 * (nI e)) + (nI j)), .ref 69], mjH I X)) (fun _ => rfl) ?_
    refine mjGo.op (pc' := 86) (F' := ([some (.ref 43), some (.int (nI e)), some (.int (nI j)), some (.int v)], [.int (I 67 e), .int ((100 * (nI e)) + (nI j)), .ref 69], mjH I X)) (o := mjiald 86) rfl (fun _ => mjald_n (n := 8) (by omega) (by decide) (rfl) (rfl)) ?_
    refine mjGo.run 2 (pc' := (bif decide ((I 67 e) ≠ 1) then 95 else 90)) (F' := ([some (.ref 43), some (.int (nI e)), some (.int (nI j)), some (.int v)], [.int ((100 * (nI e)) + (nI j)), .ref 69], mjH I X)) (fun _ => rfl) ?_
    refine mjGo.br (fun q2 => ?_) (fun q2 => ?_)
    · show mjGo _ _ 95 _ _
      refine mjGo.run 1 (pc' := 96) (F' := ([some (.ref 43), some (.int (nI e)), some (.int (nI j)), some (.int v)], [.int v, .int ((100 * (nI e)) + (nI j)), .ref 69], mjH I X)) (fun _ => rfl) ?_
      refine mjGo.run 0 (pc' := 96) (F' := ([some (.ref 43), some (.int (nI e)), some (.int (nI j)), some (.int v)], [.int v, .int ((100 * (nI e)) + (nI j)), .ref 69], mjH I X)) (fun _ => rfl) ?_
      rw [show ((100 * (nI e)) + (nI j)) = nI (100 * e + j) from idx_eq]
      refine mjGo.op (pc' := 97) (F' := ([some (.ref 43), some (.int (nI e)), some (.int (nI j)), some (.int v)], [], mjH (mjU I 69 (100 * e + j) v) X)) (o := mjiast 97) rfl (fun _ => mjast_n (n := 800) (by omega) (by decide) (rfl) (rfl)) ?_
      have e9 : cvS (I 67 e) v = v := by unfold cvS; rw [if_pos q1, if_pos q2]
      rw [e9]
      exact mjGo.ret 2 (fun _ => rfl) rfl
    · show mjGo _ _ 90 _ _
      refine mjGo.run 3 (pc' := 96) (F' := ([some (.ref 43), some (.int (nI e)), some (.int (nI j)), some (.int v)], [.int (v.toInt16.toInt32), .int ((100 * (nI e)) + (nI j)), .ref 69], mjH I X)) (fun _ => rfl) ?_
      refine mjGo.run 0 (pc' := 96) (F' := ([some (.ref 43), some (.int (nI e)), some (.int (nI j)), some (.int v)], [.int (v.toInt16.toInt32), .int ((100 * (nI e)) + (nI j)), .ref 69], mjH I X)) (fun _ => rfl) ?_
      rw [show ((100 * (nI e)) + (nI j)) = nI (100 * e + j) from idx_eq]
      refine mjGo.op (pc' := 97) (F' := ([some (.ref 43), some (.int (nI e)), some (.int (nI j)), some (.int v)], [], mjH (mjU I 69 (100 * e + j) (v.toInt16.toInt32)) X)) (o := mjiast 97) rfl (fun _ => mjast_n (n := 800) (by omega) (by decide) (rfl) (rfl)) ?_
      have e9 : cvS (I 67 e) v = (v.toInt16.toInt32) := by unfold cvS; rw [if_pos q1, if_neg q2]
      rw [e9]
      exact mjGo.ret 2 (fun _ => rfl) rfl
  · show mjGo _ _ 75 _ _
    refine mjGo.run 3 (pc' := 96) (F' := ([some (.ref 43), some (.int (nI e)), some (.int (nI j)), some (.int v)], [.int (v.toInt8.toInt32), .int ((100 * (nI e)) + (nI j)), .ref 69], mjH I X)) (fun _ => rfl) ?_
    refine mjGo.run 0 (pc' := 96) (F' := ([some (.ref 43), some (.int (nI e)), some (.int (nI j)), some (.int v)], [.int (v.toInt8.toInt32), .int ((100 * (nI e)) + (nI j)), .ref 69], mjH I X)) (fun _ => rfl) ?_
    rw [show ((100 * (nI e)) + (nI j)) = nI (100 * e + j) from idx_eq]
    refine mjGo.op (pc' := 97) (F' := ([some (.ref 43), some (.int (nI e)), some (.int (nI j)), some (.int v)], [], mjH (mjU I 69 (100 * e + j) (v.toInt8.toInt32)) X)) (o := mjiast 97) rfl (fun _ => mjast_n (n := 800) (by omega) (by decide) (rfl) (rfl)) ?_
    have e9 : cvS (I 67 e) v = (v.toInt8.toInt32) := by unfold cvS; rw [if_neg q1]
    rw [e9]
    exact mjGo.ret 2 (fun _ => rfl) rfl
