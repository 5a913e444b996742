/-! texts: the class reads a statement -/
theorem x_rdT (d : Nat) {e p p5 : Nat} {g : Nat → Int32} {I : Nat → Nat → Int32} {X : MX} {o7 o8 : Option Value} (he : e < 8) (hg : gOf I e g) (hp : p5 < 950) : mjGo (d + 4) nyX11_readStatement 31 ([some (.ref 0), some (.ref (27 + 2 * e)), some (.int (nI p)), some (.ref 1000001), some (.int (nI p5)), some (.int 4), some (.int 4), o7, o8], [], mjH I X) (fun x => ∃ o, x.1 = .inl o ∧ ∃ J, x.2 = mjH J X ∧ (∀ k, k ≠ 22 → J k = I k) ∧ (∀ i, i < 4 → J 22 i = I 22 i) ∧ o = some (.int (rdA (rdE g [32, 51, 59] p5))) ∧ ((rdE g [32, 51, 59] p5).2 = true → J 22 4 = vlP g 51 (p5 + szP g 32 p5))) := by
  refine mjGo.run 2 (pc' := 34) (F' := ([some (.ref 0), some (.ref (27 + 2 * e)), some (.int (nI p)), some (.ref 1000001), some (.int (nI p5)), some (.int 4), some (.int 4), o7, o8], [.ref 1000001, .int 4], mjH I X)) (fun _ => rfl) ?_
  refine mjGo.call (n := 1) (j := 3) (nx := 37) (o := some (.int 7)) (h' := mjH I X) (fun _ => rfl) (t_ln1 d _) ?_
  show mjGo _ _ 37 ([some (.ref 0), some (.ref (27 + 2 * e)), some (.int (nI p)), some (.ref 1000001), some (.int (nI p5)), some (.int 4), some (.int 4), o7, o8], [.int 7, .int 4], mjH I X) _
  refine mjGo.run 3 (pc' := 43) (F' := ([some (.ref 0), some (.ref (27 + 2 * e)), some (.int (nI p)), some (.ref 1000001), some (.int (nI p5)), some (.int 4), some (.int 4), o7, o8], [.int 4, .ref 1000001], mjH I X)) (fun _ => rfl) ?_
  refine mjGo.call (n := 2) (j := 8) (nx := 46) (o := some (.int 32)) (h' := mjH I X) (fun _ => rfl) (t_ch1_4 d _) ?_
  show mjGo _ _ 46 ([some (.ref 0), some (.ref (27 + 2 * e)), some (.int (nI p)), some (.ref 1000001), some (.int (nI p5)), some (.int 4), some (.int 4), o7, o8], [.int 32], mjH I X) _
  refine mjGo.run 4 (pc' := 53) (F' := ([some (.ref 0), some (.ref (27 + 2 * e)), some (.int (nI p)), some (.ref 1000001), some (.int (nI p5)), some (.int 4), some (.int 4), some (.int 32), o8], [.int 32, .int (nI p5), .ref (27 + 2 * e)], mjH I X)) (fun _ => rfl) ?_
  refine mjGo.call (n := 3) (j := 83) (nx := 56) (o := some (.int (nI (szP g 32 p5)))) (h' := mjH I X) (fun _ => rfl) (c_xSz32 d (X := X) he hg (by omega)) ?_
  show mjGo _ _ 56 ([some (.ref 0), some (.ref (27 + 2 * e)), some (.int (nI p)), some (.ref 1000001), some (.int (nI p5)), some (.int 4), some (.int 4), some (.int 32), o8], [.int (nI (szP g 32 p5))], mjH I X) _
  refine mjGo.run 0 (pc' := 56) (F' := ([some (.ref 0), some (.ref (27 + 2 * e)), some (.int (nI p)), some (.ref 1000001), some (.int (nI p5)), some (.int 4), some (.int 4), some (.int 32), o8], [.int (nI (szP g 32 p5))], mjH I X)) (fun _ => rfl) ?_
  obtain ⟨z5, hz5⟩ : ∃ t, t = szP g 32 p5 := ⟨_, rfl⟩
  have b5 : z5 ≤ 3 := by rw [hz5]; exact szP_3
  rw [show (nI (szP g 32 p5)) = nI z5 from congrArg nI hz5.symm]
  refine mjGo.run 3 (pc' := (bif decide ((nI z5) ≠ 0) then 68 else 63)) (F' := ([some (.ref 0), some (.ref (27 + 2 * e)), some (.int (nI p)), some (.ref 1000001), some (.int (nI p5)), some (.int 4), some (.int 4), some (.int 32), some (.int (nI z5))], [], mjH I X)) (fun _ => rfl) ?_
  refine mjGo.br (fun q1 => ?_) (fun q1 => ?_)
  · show mjGo _ _ 68 _ _
    refine mjGo.run 3 (pc' := 122) (F' := ([some (.ref 0), some (.ref (27 + 2 * e)), some (.int (nI p)), some (.ref 1000001), some (.int (nI p5)), some (.int 4), some (.int 4), some (.int 32), some (.int (nI z5))], [], mjH I X)) (fun _ => rfl) ?_
    refine mjGo.run 3 (pc' := 127) (F' := ([some (.ref 0), some (.ref (27 + 2 * e)), some (.int (nI p)), some (.ref 1000001), some (.int (nI p5)), some (.int 4), some (.int 4), some (.int 32), some (.int (nI z5))], [.int ((nI p5) + (nI z5))], mjH I X)) (fun _ => rfl) ?_
    refine mjGo.run 0 (pc' := 127) (F' := ([some (.ref 0), some (.ref (27 + 2 * e)), some (.int (nI p)), some (.ref 1000001), some (.int (nI p5)), some (.int 4), some (.int 4), some (.int 32), some (.int (nI z5))], [.int ((nI p5) + (nI z5))], mjH I X)) (fun _ => rfl) ?_
    obtain ⟨p6, hp6⟩ : ∃ t, t = p5 + z5 := ⟨_, rfl⟩
    rw [show ((nI p5) + (nI z5)) = nI p6 from (nI_add _ _).trans (congrArg nI hp6.symm)]
    refine mjGo.run 2 (pc' := 132) (F' := ([some (.ref 0), some (.ref (27 + 2 * e)), some (.int (nI p)), some (.ref 1000001), some (.int (nI p6)), some (.int 4), some (.int (4 + 1)), some (.int 32), some (.int (nI z5))], [], mjH I X)) (fun _ => rfl) ?_
    refine mjGo.run 0 (pc' := 132) (F' := ([some (.ref 0), some (.ref (27 + 2 * e)), some (.int (nI p)), some (.ref 1000001), some (.int (nI p6)), some (.int 4), some (.int (4 + 1)), some (.int 32), some (.int (nI z5))], [], mjH I X)) (fun _ => rfl) ?_
    rw [show (4 + 1 : Int32) = 5 from by decide]
    refine mjGo.run 3 (pc' := 34) (F' := ([some (.ref 0), some (.ref (27 + 2 * e)), some (.int (nI p)), some (.ref 1000001), some (.int (nI p6)), some (.int 4), some (.int 5), some (.int 32), some (.int (nI z5))], [.ref 1000001, .int 5], mjH I X)) (fun _ => rfl) ?_
    refine mjGo.call (n := 1) (j := 3) (nx := 37) (o := some (.int 7)) (h' := mjH I X) (fun _ => rfl) (t_ln1 d _) ?_
    show mjGo _ _ 37 ([some (.ref 0), some (.ref (27 + 2 * e)), some (.int (nI p)), some (.ref 1000001), some (.int (nI p6)), some (.int 4), some (.int 5), some (.int 32), some (.int (nI z5))], [.int 7, .int 5], mjH I X) _
    refine mjGo.run 3 (pc' := 43) (F' := ([some (.ref 0), some (.ref (27 + 2 * e)), some (.int (nI p)), some (.ref 1000001), some (.int (nI p6)), some (.int 4), some (.int 5), some (.int 32), some (.int (nI z5))], [.int 5, .ref 1000001], mjH I X)) (fun _ => rfl) ?_
    refine mjGo.call (n := 2) (j := 8) (nx := 46) (o := some (.int 51)) (h' := mjH I X) (fun _ => rfl) (t_ch1_5 d _) ?_
    show mjGo _ _ 46 ([some (.ref 0), some (.ref (27 + 2 * e)), some (.int (nI p)), some (.ref 1000001), some (.int (nI p6)), some (.int 4), some (.int 5), some (.int 32), some (.int (nI z5))], [.int 51], mjH I X) _
    refine mjGo.run 4 (pc' := 53) (F' := ([some (.ref 0), some (.ref (27 + 2 * e)), some (.int (nI p)), some (.ref 1000001), some (.int (nI p6)), some (.int 4), some (.int 5), some (.int 51), some (.int (nI z5))], [.int 51, .int (nI p6), .ref (27 + 2 * e)], mjH I X)) (fun _ => rfl) ?_
    refine mjGo.call (n := 3) (j := 83) (nx := 56) (o := some (.int (nI (szP g 51 p6)))) (h' := mjH I X) (fun _ => rfl) (c_xSz51 d (X := X) he hg (by omega)) ?_
    show mjGo _ _ 56 ([some (.ref 0), some (.ref (27 + 2 * e)), some (.int (nI p)), some (.ref 1000001), some (.int (nI p6)), some (.int 4), some (.int 5), some (.int 51), some (.int (nI z5))], [.int (nI (szP g 51 p6))], mjH I X) _
    refine mjGo.run 0 (pc' := 56) (F' := ([some (.ref 0), some (.ref (27 + 2 * e)), some (.int (nI p)), some (.ref 1000001), some (.int (nI p6)), some (.int 4), some (.int 5), some (.int 51), some (.int (nI z5))], [.int (nI (szP g 51 p6))], mjH I X)) (fun _ => rfl) ?_
    obtain ⟨z6, hz6⟩ : ∃ t, t = szP g 51 p6 := ⟨_, rfl⟩
    have b6 : z6 ≤ 3 := by rw [hz6]; exact szP_3
    rw [show (nI (szP g 51 p6)) = nI z6 from congrArg nI hz6.symm]
    refine mjGo.run 3 (pc' := (bif decide ((nI z6) ≠ 0) then 68 else 63)) (F' := ([some (.ref 0), some (.ref (27 + 2 * e)), some (.int (nI p)), some (.ref 1000001), some (.int (nI p6)), some (.int 4), some (.int 5), some (.int 51), some (.int (nI z6))], [], mjH I X)) (fun _ => rfl) ?_
    refine mjGo.br (fun q2 => ?_) (fun q2 => ?_)
    · show mjGo _ _ 68 _ _
      refine mjGo.run 18 (pc' := 115) (F' := ([some (.ref 0), some (.ref (27 + 2 * e)), some (.int (nI p)), some (.ref 1000001), some (.int (nI p6)), some (.int 4), some (.int 5), some (.int 51), some (.int (nI z6))], [.int (nI z6), .int (nI p6), .ref (27 + 2 * e), .int 4, .ref 22], mjH I X)) (fun _ => rfl) ?_
      refine mjGo.call (n := 3) (j := 84) (nx := 118) (o := some (.int (nI (numD g z6 p6 0)))) (h' := mjH I X) (fun _ => rfl) (c_xNum (d + 1) (X := X) he hg (by omega) (fun i hi => nDg_dg (m := 3) (by rw [hz6] at hi; exact hi))) ?_
      show mjGo _ _ 118 ([some (.ref 0), some (.ref (27 + 2 * e)), some (.int (nI p)), some (.ref 1000001), some (.int (nI p6)), some (.int 4), some (.int 5), some (.int 51), some (.int (nI z6))], [.int (nI (numD g z6 p6 0)), .int 4, .ref 22], mjH I X) _
      refine mjGo.run 2 (pc' := 122) (F' := ([some (.ref 0), some (.ref (27 + 2 * e)), some (.int (nI p)), some (.ref 1000001), some (.int (nI p6)), some (.int (4 + 1)), some (.int 5), some (.int 51), some (.int (nI z6))], [], mjH (mjU I 22 4 (nI (numD g z6 p6 0))) X)) (fun _ => rfl) ?_
      refine mjGo.run 0 (pc' := 122) (F' := ([some (.ref 0), some (.ref (27 + 2 * e)), some (.int (nI p)), some (.ref 1000001), some (.int (nI p6)), some (.int (4 + 1)), some (.int 5), some (.int 51), some (.int (nI z6))], [], mjH (mjU I 22 4 (nI (numD g z6 p6 0))) X)) (fun _ => rfl) ?_
      rw [show (4 + 1 : Int32) = 5 from by decide]
      refine mjGo.run 3 (pc' := 127) (F' := ([some (.ref 0), some (.ref (27 + 2 * e)), some (.int (nI p)), some (.ref 1000001), some (.int (nI p6)), some (.int 5), some (.int 5), some (.int 51), some (.int (nI z6))], [.int ((nI p6) + (nI z6))], mjH (mjU I 22 4 (nI (numD g z6 p6 0))) X)) (fun _ => rfl) ?_
      refine mjGo.run 0 (pc' := 127) (F' := ([some (.ref 0), some (.ref (27 + 2 * e)), some (.int (nI p)), some (.ref 1000001), some (.int (nI p6)), some (.int 5), some (.int 5), some (.int 51), some (.int (nI z6))], [.int ((nI p6) + (nI z6))], mjH (mjU I 22 4 (nI (numD g z6 p6 0))) X)) (fun _ => rfl) ?_
      obtain ⟨p7, hp7⟩ : ∃ t, t = p6 + z6 := ⟨_, rfl⟩
      rw [show ((nI p6) + (nI z6)) = nI p7 from (nI_add _ _).trans (congrArg nI hp7.symm)]
      refine mjGo.run 2 (pc' := 132) (F' := ([some (.ref 0), some (.ref (27 + 2 * e)), some (.int (nI p)), some (.ref 1000001), some (.int (nI p7)), some (.int 5), some (.int (5 + 1)), some (.int 51), some (.int (nI z6))], [], mjH (mjU I 22 4 (nI (numD g z6 p6 0))) X)) (fun _ => rfl) ?_
      refine mjGo.run 0 (pc' := 132) (F' := ([some (.ref 0), some (.ref (27 + 2 * e)), some (.int (nI p)), some (.ref 1000001), some (.int (nI p7)), some (.int 5), some (.int (5 + 1)), some (.int 51), some (.int (nI z6))], [], mjH (mjU I 22 4 (nI (numD g z6 p6 0))) X)) (fun _ => rfl) ?_
      rw [show (5 + 1 : Int32) = 6 from by decide]
      refine mjGo.run 3 (pc' := 34) (F' := ([some (.ref 0), some (.ref (27 + 2 * e)), some (.int (nI p)), some (.ref 1000001), some (.int (nI p7)), some (.int 5), some (.int 6), some (.int 51), some (.int (nI z6))], [.ref 1000001, .int 6], mjH (mjU I 22 4 (nI (numD g z6 p6 0))) X)) (fun _ => rfl) ?_
      refine mjGo.call (n := 1) (j := 3) (nx := 37) (o := some (.int 7)) (h' := mjH (mjU I 22 4 (nI (numD g z6 p6 0))) X) (fun _ => rfl) (t_ln1 d _) ?_
      show mjGo _ _ 37 ([some (.ref 0), some (.ref (27 + 2 * e)), some (.int (nI p)), some (.ref 1000001), some (.int (nI p7)), some (.int 5), some (.int 6), some (.int 51), some (.int (nI z6))], [.int 7, .int 6], mjH (mjU I 22 4 (nI (numD g z6 p6 0))) X) _
      refine mjGo.run 3 (pc' := 43) (F' := ([some (.ref 0), some (.ref (27 + 2 * e)), some (.int (nI p)), some (.ref 1000001), some (.int (nI p7)), some (.int 5), some (.int 6), some (.int 51), some (.int (nI z6))], [.int 6, .ref 1000001], mjH (mjU I 22 4 (nI (numD g z6 p6 0))) X)) (fun _ => rfl) ?_
      refine mjGo.call (n := 2) (j := 8) (nx := 46) (o := some (.int 59)) (h' := mjH (mjU I 22 4 (nI (numD g z6 p6 0))) X) (fun _ => rfl) (t_ch1_6 d _) ?_
      show mjGo _ _ 46 ([some (.ref 0), some (.ref (27 + 2 * e)), some (.int (nI p)), some (.ref 1000001), some (.int (nI p7)), some (.int 5), some (.int 6), some (.int 51), some (.int (nI z6))], [.int 59], mjH (mjU I 22 4 (nI (numD g z6 p6 0))) X) _
      refine mjGo.run 4 (pc' := 53) (F' := ([some (.ref 0), some (.ref (27 + 2 * e)), some (.int (nI p)), some (.ref 1000001), some (.int (nI p7)), some (.int 5), some (.int 6), some (.int 59), some (.int (nI z6))], [.int 59, .int (nI p7), .ref (27 + 2 * e)], mjH (mjU I 22 4 (nI (numD g z6 p6 0))) X)) (fun _ => rfl) ?_
      refine mjGo.call (n := 3) (j := 83) (nx := 56) (o := some (.int (nI (szP g 59 p7)))) (h' := mjH (mjU I 22 4 (nI (numD g z6 p6 0))) X) (fun _ => rfl) (c_xSz59 d (X := X) he (gOf.u hg) (by omega)) ?_
      show mjGo _ _ 56 ([some (.ref 0), some (.ref (27 + 2 * e)), some (.int (nI p)), some (.ref 1000001), some (.int (nI p7)), some (.int 5), some (.int 6), some (.int 59), some (.int (nI z6))], [.int (nI (szP g 59 p7))], mjH (mjU I 22 4 (nI (numD g z6 p6 0))) X) _
      refine mjGo.run 0 (pc' := 56) (F' := ([some (.ref 0), some (.ref (27 + 2 * e)), some (.int (nI p)), some (.ref 1000001), some (.int (nI p7)), some (.int 5), some (.int 6), some (.int 59), some (.int (nI z6))], [.int (nI (szP g 59 p7))], mjH (mjU I 22 4 (nI (numD g z6 p6 0))) X)) (fun _ => rfl) ?_
      obtain ⟨z7, hz7⟩ : ∃ t, t = szP g 59 p7 := ⟨_, rfl⟩
      have b7 : z7 ≤ 3 := by rw [hz7]; exact szP_3
      rw [show (nI (szP g 59 p7)) = nI z7 from congrArg nI hz7.symm]
      refine mjGo.run 3 (pc' := (bif decide ((nI z7) ≠ 0) then 68 else 63)) (F' := ([some (.ref 0), some (.ref (27 + 2 * e)), some (.int (nI p)), some (.ref 1000001), some (.int (nI p7)), some (.int 5), some (.int 6), some (.int 59), some (.int (nI z7))], [], mjH (mjU I 22 4 (nI (numD g z6 p6 0))) X)) (fun _ => rfl) ?_
      refine mjGo.br (fun q3 => ?_) (fun q3 => ?_)
      · show mjGo _ _ 68 _ _
        refine mjGo.run 6 (pc' := 122) (F' := ([some (.ref 0), some (.ref (27 + 2 * e)), some (.int (nI p)), some (.ref 1000001), some (.int (nI p7)), some (.int 5), some (.int 6), some (.int 59), some (.int (nI z7))], [], mjH (mjU I 22 4 (nI (numD g z6 p6 0))) X)) (fun _ => rfl) ?_
        refine mjGo.run 3 (pc' := 127) (F' := ([some (.ref 0), some (.ref (27 + 2 * e)), some (.int (nI p)), some (.ref 1000001), some (.int (nI p7)), some (.int 5), some (.int 6), some (.int 59), some (.int (nI z7))], [.int ((nI p7) + (nI z7))], mjH (mjU I 22 4 (nI (numD g z6 p6 0))) X)) (fun _ => rfl) ?_
        refine mjGo.run 0 (pc' := 127) (F' := ([some (.ref 0), some (.ref (27 + 2 * e)), some (.int (nI p)), some (.ref 1000001), some (.int (nI p7)), some (.int 5), some (.int 6), some (.int 59), some (.int (nI z7))], [.int ((nI p7) + (nI z7))], mjH (mjU I 22 4 (nI (numD g z6 p6 0))) X)) (fun _ => rfl) ?_
        obtain ⟨p8, hp8⟩ : ∃ t, t = p7 + z7 := ⟨_, rfl⟩
        rw [show ((nI p7) + (nI z7)) = nI p8 from (nI_add _ _).trans (congrArg nI hp8.symm)]
        refine mjGo.run 2 (pc' := 132) (F' := ([some (.ref 0), some (.ref (27 + 2 * e)), some (.int (nI p)), some (.ref 1000001), some (.int (nI p8)), some (.int 5), some (.int (6 + 1)), some (.int 59), some (.int (nI z7))], [], mjH (mjU I 22 4 (nI (numD g z6 p6 0))) X)) (fun _ => rfl) ?_
        refine mjGo.run 0 (pc' := 132) (F' := ([some (.ref 0), some (.ref (27 + 2 * e)), some (.int (nI p)), some (.ref 1000001), some (.int (nI p8)), some (.int 5), some (.int (6 + 1)), some (.int 59), some (.int (nI z7))], [], mjH (mjU I 22 4 (nI (numD g z6 p6 0))) X)) (fun _ => rfl) ?_
        rw [show (6 + 1 : Int32) = 7 from by decide]
        refine mjGo.run 3 (pc' := 34) (F' := ([some (.ref 0), some (.ref (27 + 2 * e)), some (.int (nI p)), some (.ref 1000001), some (.int (nI p8)), some (.int 5), some (.int 7), some (.int 59), some (.int (nI z7))], [.ref 1000001, .int 7], mjH (mjU I 22 4 (nI (numD g z6 p6 0))) X)) (fun _ => rfl) ?_
        refine mjGo.call (n := 1) (j := 3) (nx := 37) (o := some (.int 7)) (h' := mjH (mjU I 22 4 (nI (numD g z6 p6 0))) X) (fun _ => rfl) (t_ln1 d _) ?_
        show mjGo _ _ 37 ([some (.ref 0), some (.ref (27 + 2 * e)), some (.int (nI p)), some (.ref 1000001), some (.int (nI p8)), some (.int 5), some (.int 7), some (.int 59), some (.int (nI z7))], [.int 7, .int 7], mjH (mjU I 22 4 (nI (numD g z6 p6 0))) X) _
        have e9 : rdE g [32, 51, 59] p5 = (p8, true) := by rw [rdE_t (by rw [← hz5]; exact q1), ← hz5, ← hp6, rdE_t (by rw [← hz6]; exact q2), ← hz6, ← hp7, rdE_t (by rw [← hz7]; exact q3), ← hz7, ← hp8, rdE]
        refine mjGo.ret 3 (fun _ => rfl) ⟨_, rfl, (mjU I 22 4 (nI (numD g z6 p6 0))), rfl, fun k hk => by rw [mjU_r hk], fun i hi => by rw [mjU_ne2 (by omega)], ?_, fun _ => ?_⟩
        · rw [e9]; rfl
        · rw [← hz5, ← hp6, vlP_n (by decide), ← hz6]; rfl
      · show mjGo _ _ 63 _ _
        have e9 : rdE g [32, 51, 59] p5 = (p7, false) := by rw [rdE_t (by rw [← hz5]; exact q1), ← hz5, ← hp6, rdE_t (by rw [← hz6]; exact q2), ← hz6, ← hp7, rdE_f (by rw [← hz7]; exact q3)]
        refine mjGo.ret 4 (fun _ => rfl) ⟨_, rfl, (mjU I 22 4 (nI (numD g z6 p6 0))), rfl, fun k hk => by rw [mjU_r hk], fun i hi => by rw [mjU_ne2 (by omega)], ?_, fun w => ?_⟩
        · rw [e9]; rfl
        · rw [e9] at w; cases w
    · show mjGo _ _ 63 _ _
      have e9 : rdE g [32, 51, 59] p5 = (p6, false) := by rw [rdE_t (by rw [← hz5]; exact q1), ← hz5, ← hp6, rdE_f (by rw [← hz6]; exact q2)]
      refine mjGo.ret 4 (fun _ => rfl) ⟨_, rfl, I, rfl, fun k hk => rfl, fun i hi => rfl, ?_, fun w => ?_⟩
      · rw [e9]; rfl
      · rw [e9] at w; cases w
  · show mjGo _ _ 63 _ _
    have e9 : rdE g [32, 51, 59] p5 = (p5, false) := by rw [rdE_f (by rw [← hz5]; exact q1)]
    refine mjGo.ret 4 (fun _ => rfl) ⟨_, rfl, I, rfl, fun k hk => rfl, fun i hi => rfl, ?_, fun w => ?_⟩
    · rw [e9]; rfl
    · rw [e9] at w; cases w
theorem c_xRd119 (d : Nat) {e p : Nat} {g : Nat → Int32} {I : Nat → Nat → Int32} {X : MX} (he : e < 8) (hg : gOf I e g) (hp : p < 900) (hl : g p = 119) : mjEvP (d + 4) nyX11_readStatement [.ref 0, .ref (27 + 2 * e), .int (nI p)] (mjH I X) (fun o h2 => ∃ J, h2 = mjH J X ∧ (∀ k, k ≠ 22 → J k = I k) ∧ o = some (.int (rdA (rdE g [51, 32, 50, 32, 49, 59] (p + 1)))) ∧ ((rdE g [51, 32, 50, 32, 49, 59] (p + 1)).2 = true → ∀ i, i < 3 → J 22 i = (vls g [51, 32, 50, 32, 49, 59] (p + 1)).getD i 0)) := by
  refine mjEvP.of ?_
  show mjGo (d + 4) nyX11_readStatement 0 ([some (.ref 0), some (.ref (27 + 2 * e)), some (.int (nI p)), none, none, none, none, none, none], [], mjH I X) _
  obtain ⟨p1, hp1⟩ : ∃ t, t = p + 1 := ⟨_, rfl⟩
  rw [show rdE g [51, 32, 50, 32, 49, 59] (p + 1) = rdE g [51, 32, 50, 32, 49, 59] p1 by rw [hp1], show vls g [51, 32, 50, 32, 49, 59] (p + 1) = vls g [51, 32, 50, 32, 49, 59] p1 by rw [hp1]]
  refine mjGo.run 2 (pc' := 2) (F' := ([some (.ref 0), some (.ref (27 + 2 * e)), some (.int (nI p)), none, none, none, none, none, none], [.int (nI p), .ref (27 + 2 * e)], mjH I X)) (fun _ => rfl) ?_
  refine mjGo.callL (o := some (.int (g p))) (h' := mjH I X) (nx := 5) rfl rfl rfl ((row_N he).1) ⟨_, row_lk he, (by have q9 := c_xVal (d + 2) (I := I) (X := X) e (nI p) he; rw [hg p (by omega)] at q9; exact q9)⟩ ?_
  show mjGo _ _ 5 ([some (.ref 0), some (.ref (27 + 2 * e)), some (.int (nI p)), none, none, none, none, none, none], [.int (g p)], mjH I X) _
  refine mjGo.run 0 (pc' := 5) (F' := ([some (.ref 0), some (.ref (27 + 2 * e)), some (.int (nI p)), none, none, none, none, none, none], [.int (g p)], mjH I X)) (fun _ => rfl) ?_
  rw [show (g p) = 119 from hl]
  refine mjGo.call (n := 1) (j := 79) (nx := 8) (o := some (.ref 1000000)) (h' := mjH I X) (fun _ => rfl) (t_fo0 _ _) ?_
  show mjGo _ _ 8 ([some (.ref 0), some (.ref (27 + 2 * e)), some (.int (nI p)), none, none, none, none, none, none], [.ref 1000000], mjH I X) _
  refine mjGo.run 2 (pc' := 10) (F' := ([some (.ref 0), some (.ref (27 + 2 * e)), some (.int (nI p)), some (.ref 1000000), none, none, none, none, none], [.ref 1000000], mjH I X)) (fun _ => rfl) ?_
  refine mjGo.call (n := 1) (j := 1) (nx := 13) (o := some (.int 0)) (h' := mjH I X) (fun _ => rfl) (t_em0 _ _) ?_
  show mjGo _ _ 13 ([some (.ref 0), some (.ref (27 + 2 * e)), some (.int (nI p)), some (.ref 1000000), none, none, none, none, none], [.int 0], mjH I X) _
  refine mjGo.run 4 (pc' := 23) (F' := ([some (.ref 0), some (.ref (27 + 2 * e)), some (.int (nI p)), some (.ref 1000000), none, none, none, none, none], [.int ((nI p) + 1)], mjH I X)) (fun _ => rfl) ?_
  refine mjGo.run 0 (pc' := 23) (F' := ([some (.ref 0), some (.ref (27 + 2 * e)), some (.int (nI p)), some (.ref 1000000), none, none, none, none, none], [.int ((nI p) + 1)], mjH I X)) (fun _ => rfl) ?_
  rw [show ((nI p) + 1) = nI p1 from (nI_1 p).trans (congrArg nI hp1.symm)]
  refine mjGo.run 7 (pc' := 34) (F' := ([some (.ref 0), some (.ref (27 + 2 * e)), some (.int (nI p)), some (.ref 1000000), some (.int (nI p1)), some (.int 0), some (.int 0), none, none], [.ref 1000000, .int 0], mjH I X)) (fun _ => rfl) ?_
  refine mjGo.call (n := 1) (j := 3) (nx := 37) (o := some (.int 6)) (h' := mjH I X) (fun _ => rfl) (t_ln0 d _) ?_
  show mjGo _ _ 37 ([some (.ref 0), some (.ref (27 + 2 * e)), some (.int (nI p)), some (.ref 1000000), some (.int (nI p1)), some (.int 0), some (.int 0), none, none], [.int 6, .int 0], mjH I X) _
  refine mjGo.run 3 (pc' := 43) (F' := ([some (.ref 0), some (.ref (27 + 2 * e)), some (.int (nI p)), some (.ref 1000000), some (.int (nI p1)), some (.int 0), some (.int 0), none, none], [.int 0, .ref 1000000], mjH I X)) (fun _ => rfl) ?_
  refine mjGo.call (n := 2) (j := 8) (nx := 46) (o := some (.int 51)) (h' := mjH I X) (fun _ => rfl) (t_ch0_0 d _) ?_
  show mjGo _ _ 46 ([some (.ref 0), some (.ref (27 + 2 * e)), some (.int (nI p)), some (.ref 1000000), some (.int (nI p1)), some (.int 0), some (.int 0), none, none], [.int 51], mjH I X) _
  refine mjGo.run 4 (pc' := 53) (F' := ([some (.ref 0), some (.ref (27 + 2 * e)), some (.int (nI p)), some (.ref 1000000), some (.int (nI p1)), some (.int 0), some (.int 0), some (.int 51), none], [.int 51, .int (nI p1), .ref (27 + 2 * e)], mjH I X)) (fun _ => rfl) ?_
  refine mjGo.call (n := 3) (j := 83) (nx := 56) (o := some (.int (nI (szP g 51 p1)))) (h' := mjH I X) (fun _ => rfl) (c_xSz51 d (X := X) he hg (by omega)) ?_
  show mjGo _ _ 56 ([some (.ref 0), some (.ref (27 + 2 * e)), some (.int (nI p)), some (.ref 1000000), some (.int (nI p1)), some (.int 0), some (.int 0), some (.int 51), none], [.int (nI (szP g 51 p1))], mjH I X) _
  refine mjGo.run 0 (pc' := 56) (F' := ([some (.ref 0), some (.ref (27 + 2 * e)), some (.int (nI p)), some (.ref 1000000), some (.int (nI p1)), some (.int 0), some (.int 0), some (.int 51), none], [.int (nI (szP g 51 p1))], mjH I X)) (fun _ => rfl) ?_
  obtain ⟨z1, hz1⟩ : ∃ t, t = szP g 51 p1 := ⟨_, rfl⟩
  have b1 : z1 ≤ 3 := by rw [hz1]; exact szP_3
  rw [show (nI (szP g 51 p1)) = nI z1 from congrArg nI hz1.symm]
  refine mjGo.run 3 (pc' := (bif decide ((nI z1) ≠ 0) then 68 else 63)) (F' := ([some (.ref 0), some (.ref (27 + 2 * e)), some (.int (nI p)), some (.ref 1000000), some (.int (nI p1)), some (.int 0), some (.int 0), some (.int 51), some (.int (nI z1))], [], mjH I X)) (fun _ => rfl) ?_
  refine mjGo.br (fun q1 => ?_) (fun q1 => ?_)
  · show mjGo _ _ 68 _ _
    refine mjGo.run 18 (pc' := 115) (F' := ([some (.ref 0), some (.ref (27 + 2 * e)), some (.int (nI p)), some (.ref 1000000), some (.int (nI p1)), some (.int 0), some (.int 0), some (.int 51), some (.int (nI z1))], [.int (nI z1), .int (nI p1), .ref (27 + 2 * e), .int 0, .ref 22], mjH I X)) (fun _ => rfl) ?_
    refine mjGo.call (n := 3) (j := 84) (nx := 118) (o := some (.int (nI (numD g z1 p1 0)))) (h' := mjH I X) (fun _ => rfl) (c_xNum (d + 1) (X := X) he hg (by omega) (fun i hi => nDg_dg (m := 3) (by rw [hz1] at hi; exact hi))) ?_
    show mjGo _ _ 118 ([some (.ref 0), some (.ref (27 + 2 * e)), some (.int (nI p)), some (.ref 1000000), some (.int (nI p1)), some (.int 0), some (.int 0), some (.int 51), some (.int (nI z1))], [.int (nI (numD g z1 p1 0)), .int 0, .ref 22], mjH I X) _
    refine mjGo.run 2 (pc' := 122) (F' := ([some (.ref 0), some (.ref (27 + 2 * e)), some (.int (nI p)), some (.ref 1000000), some (.int (nI p1)), some (.int (0 + 1)), some (.int 0), some (.int 51), some (.int (nI z1))], [], mjH (mjU I 22 0 (nI (numD g z1 p1 0))) X)) (fun _ => rfl) ?_
    refine mjGo.run 0 (pc' := 122) (F' := ([some (.ref 0), some (.ref (27 + 2 * e)), some (.int (nI p)), some (.ref 1000000), some (.int (nI p1)), some (.int (0 + 1)), some (.int 0), some (.int 51), some (.int (nI z1))], [], mjH (mjU I 22 0 (nI (numD g z1 p1 0))) X)) (fun _ => rfl) ?_
    rw [show (0 + 1 : Int32) = 1 from by decide]
    refine mjGo.run 3 (pc' := 127) (F' := ([some (.ref 0), some (.ref (27 + 2 * e)), some (.int (nI p)), some (.ref 1000000), some (.int (nI p1)), some (.int 1), some (.int 0), some (.int 51), some (.int (nI z1))], [.int ((nI p1) + (nI z1))], mjH (mjU I 22 0 (nI (numD g z1 p1 0))) X)) (fun _ => rfl) ?_
    refine mjGo.run 0 (pc' := 127) (F' := ([some (.ref 0), some (.ref (27 + 2 * e)), some (.int (nI p)), some (.ref 1000000), some (.int (nI p1)), some (.int 1), some (.int 0), some (.int 51), some (.int (nI z1))], [.int ((nI p1) + (nI z1))], mjH (mjU I 22 0 (nI (numD g z1 p1 0))) X)) (fun _ => rfl) ?_
    obtain ⟨p2, hp2⟩ : ∃ t, t = p1 + z1 := ⟨_, rfl⟩
    rw [show ((nI p1) + (nI z1)) = nI p2 from (nI_add _ _).trans (congrArg nI hp2.symm)]
    refine mjGo.run 2 (pc' := 132) (F' := ([some (.ref 0), some (.ref (27 + 2 * e)), some (.int (nI p)), some (.ref 1000000), some (.int (nI p2)), some (.int 1), some (.int (0 + 1)), some (.int 51), some (.int (nI z1))], [], mjH (mjU I 22 0 (nI (numD g z1 p1 0))) X)) (fun _ => rfl) ?_
    refine mjGo.run 0 (pc' := 132) (F' := ([some (.ref 0), some (.ref (27 + 2 * e)), some (.int (nI p)), some (.ref 1000000), some (.int (nI p2)), some (.int 1), some (.int (0 + 1)), some (.int 51), some (.int (nI z1))], [], mjH (mjU I 22 0 (nI (numD g z1 p1 0))) X)) (fun _ => rfl) ?_
    rw [show (0 + 1 : Int32) = 1 from by decide]
    refine mjGo.run 3 (pc' := 34) (F' := ([some (.ref 0), some (.ref (27 + 2 * e)), some (.int (nI p)), some (.ref 1000000), some (.int (nI p2)), some (.int 1), some (.int 1), some (.int 51), some (.int (nI z1))], [.ref 1000000, .int 1], mjH (mjU I 22 0 (nI (numD g z1 p1 0))) X)) (fun _ => rfl) ?_
    refine mjGo.call (n := 1) (j := 3) (nx := 37) (o := some (.int 6)) (h' := mjH (mjU I 22 0 (nI (numD g z1 p1 0))) X) (fun _ => rfl) (t_ln0 d _) ?_
    show mjGo _ _ 37 ([some (.ref 0), some (.ref (27 + 2 * e)), some (.int (nI p)), some (.ref 1000000), some (.int (nI p2)), some (.int 1), some (.int 1), some (.int 51), some (.int (nI z1))], [.int 6, .int 1], mjH (mjU I 22 0 (nI (numD g z1 p1 0))) X) _
    refine mjGo.run 3 (pc' := 43) (F' := ([some (.ref 0), some (.ref (27 + 2 * e)), some (.int (nI p)), some (.ref 1000000), some (.int (nI p2)), some (.int 1), some (.int 1), some (.int 51), some (.int (nI z1))], [.int 1, .ref 1000000], mjH (mjU I 22 0 (nI (numD g z1 p1 0))) X)) (fun _ => rfl) ?_
    refine mjGo.call (n := 2) (j := 8) (nx := 46) (o := some (.int 32)) (h' := mjH (mjU I 22 0 (nI (numD g z1 p1 0))) X) (fun _ => rfl) (t_ch0_1 d _) ?_
    show mjGo _ _ 46 ([some (.ref 0), some (.ref (27 + 2 * e)), some (.int (nI p)), some (.ref 1000000), some (.int (nI p2)), some (.int 1), some (.int 1), some (.int 51), some (.int (nI z1))], [.int 32], mjH (mjU I 22 0 (nI (numD g z1 p1 0))) X) _
    refine mjGo.run 4 (pc' := 53) (F' := ([some (.ref 0), some (.ref (27 + 2 * e)), some (.int (nI p)), some (.ref 1000000), some (.int (nI p2)), some (.int 1), some (.int 1), some (.int 32), some (.int (nI z1))], [.int 32, .int (nI p2), .ref (27 + 2 * e)], mjH (mjU I 22 0 (nI (numD g z1 p1 0))) X)) (fun _ => rfl) ?_
    refine mjGo.call (n := 3) (j := 83) (nx := 56) (o := some (.int (nI (szP g 32 p2)))) (h' := mjH (mjU I 22 0 (nI (numD g z1 p1 0))) X) (fun _ => rfl) (c_xSz32 d (X := X) he (gOf.u hg) (by omega)) ?_
    show mjGo _ _ 56 ([some (.ref 0), some (.ref (27 + 2 * e)), some (.int (nI p)), some (.ref 1000000), some (.int (nI p2)), some (.int 1), some (.int 1), some (.int 32), some (.int (nI z1))], [.int (nI (szP g 32 p2))], mjH (mjU I 22 0 (nI (numD g z1 p1 0))) X) _
    refine mjGo.run 0 (pc' := 56) (F' := ([some (.ref 0), some (.ref (27 + 2 * e)), some (.int (nI p)), some (.ref 1000000), some (.int (nI p2)), some (.int 1), some (.int 1), some (.int 32), some (.int (nI z1))], [.int (nI (szP g 32 p2))], mjH (mjU I 22 0 (nI (numD g z1 p1 0))) X)) (fun _ => rfl) ?_
    obtain ⟨z2, hz2⟩ : ∃ t, t = szP g 32 p2 := ⟨_, rfl⟩
    have b2 : z2 ≤ 3 := by rw [hz2]; exact szP_3
    rw [show (nI (szP g 32 p2)) = nI z2 from congrArg nI hz2.symm]
    refine mjGo.run 3 (pc' := (bif decide ((nI z2) ≠ 0) then 68 else 63)) (F' := ([some (.ref 0), some (.ref (27 + 2 * e)), some (.int (nI p)), some (.ref 1000000), some (.int (nI p2)), some (.int 1), some (.int 1), some (.int 32), some (.int (nI z2))], [], mjH (mjU I 22 0 (nI (numD g z1 p1 0))) X)) (fun _ => rfl) ?_
    refine mjGo.br (fun q2 => ?_) (fun q2 => ?_)
    · show mjGo _ _ 68 _ _
      refine mjGo.run 3 (pc' := 122) (F' := ([some (.ref 0), some (.ref (27 + 2 * e)), some (.int (nI p)), some (.ref 1000000), some (.int (nI p2)), some (.int 1), some (.int 1), some (.int 32), some (.int (nI z2))], [], mjH (mjU I 22 0 (nI (numD g z1 p1 0))) X)) (fun _ => rfl) ?_
      refine mjGo.run 3 (pc' := 127) (F' := ([some (.ref 0), some (.ref (27 + 2 * e)), some (.int (nI p)), some (.ref 1000000), some (.int (nI p2)), some (.int 1), some (.int 1), some (.int 32), some (.int (nI z2))], [.int ((nI p2) + (nI z2))], mjH (mjU I 22 0 (nI (numD g z1 p1 0))) X)) (fun _ => rfl) ?_
      refine mjGo.run 0 (pc' := 127) (F' := ([some (.ref 0), some (.ref (27 + 2 * e)), some (.int (nI p)), some (.ref 1000000), some (.int (nI p2)), some (.int 1), some (.int 1), some (.int 32), some (.int (nI z2))], [.int ((nI p2) + (nI z2))], mjH (mjU I 22 0 (nI (numD g z1 p1 0))) X)) (fun _ => rfl) ?_
      obtain ⟨p3, hp3⟩ : ∃ t, t = p2 + z2 := ⟨_, rfl⟩
      rw [show ((nI p2) + (nI z2)) = nI p3 from (nI_add _ _).trans (congrArg nI hp3.symm)]
      refine mjGo.run 2 (pc' := 132) (F' := ([some (.ref 0), some (.ref (27 + 2 * e)), some (.int (nI p)), some (.ref 1000000), some (.int (nI p3)), some (.int 1), some (.int (1 + 1)), some (.int 32), some (.int (nI z2))], [], mjH (mjU I 22 0 (nI (numD g z1 p1 0))) X)) (fun _ => rfl) ?_
      refine mjGo.run 0 (pc' := 132) (F' := ([some (.ref 0), some (.ref (27 + 2 * e)), some (.int (nI p)), some (.ref 1000000), some (.int (nI p3)), some (.int 1), some (.int (1 + 1)), some (.int 32), some (.int (nI z2))], [], mjH (mjU I 22 0 (nI (numD g z1 p1 0))) X)) (fun _ => rfl) ?_
      rw [show (1 + 1 : Int32) = 2 from by decide]
      refine mjGo.run 3 (pc' := 34) (F' := ([some (.ref 0), some (.ref (27 + 2 * e)), some (.int (nI p)), some (.ref 1000000), some (.int (nI p3)), some (.int 1), some (.int 2), some (.int 32), some (.int (nI z2))], [.ref 1000000, .int 2], mjH (mjU I 22 0 (nI (numD g z1 p1 0))) X)) (fun _ => rfl) ?_
      refine mjGo.call (n := 1) (j := 3) (nx := 37) (o := some (.int 6)) (h' := mjH (mjU I 22 0 (nI (numD g z1 p1 0))) X) (fun _ => rfl) (t_ln0 d _) ?_
      show mjGo _ _ 37 ([some (.ref 0), some (.ref (27 + 2 * e)), some (.int (nI p)), some (.ref 1000000), some (.int (nI p3)), some (.int 1), some (.int 2), some (.int 32), some (.int (nI z2))], [.int 6, .int 2], mjH (mjU I 22 0 (nI (numD g z1 p1 0))) X) _
      refine mjGo.run 3 (pc' := 43) (F' := ([some (.ref 0), some (.ref (27 + 2 * e)), some (.int (nI p)), some (.ref 1000000), some (.int (nI p3)), some (.int 1), some (.int 2), some (.int 32), some (.int (nI z2))], [.int 2, .ref 1000000], mjH (mjU I 22 0 (nI (numD g z1 p1 0))) X)) (fun _ => rfl) ?_
      refine mjGo.call (n := 2) (j := 8) (nx := 46) (o := some (.int 50)) (h' := mjH (mjU I 22 0 (nI (numD g z1 p1 0))) X) (fun _ => rfl) (t_ch0_2 d _) ?_
      show mjGo _ _ 46 ([some (.ref 0), some (.ref (27 + 2 * e)), some (.int (nI p)), some (.ref 1000000), some (.int (nI p3)), some (.int 1), some (.int 2), some (.int 32), some (.int (nI z2))], [.int 50], mjH (mjU I 22 0 (nI (numD g z1 p1 0))) X) _
      refine mjGo.run 4 (pc' := 53) (F' := ([some (.ref 0), some (.ref (27 + 2 * e)), some (.int (nI p)), some (.ref 1000000), some (.int (nI p3)), some (.int 1), some (.int 2), some (.int 50), some (.int (nI z2))], [.int 50, .int (nI p3), .ref (27 + 2 * e)], mjH (mjU I 22 0 (nI (numD g z1 p1 0))) X)) (fun _ => rfl) ?_
      refine mjGo.call (n := 3) (j := 83) (nx := 56) (o := some (.int (nI (szP g 50 p3)))) (h' := mjH (mjU I 22 0 (nI (numD g z1 p1 0))) X) (fun _ => rfl) (c_xSz50 d (X := X) he (gOf.u hg) (by omega)) ?_
      show mjGo _ _ 56 ([some (.ref 0), some (.ref (27 + 2 * e)), some (.int (nI p)), some (.ref 1000000), some (.int (nI p3)), some (.int 1), some (.int 2), some (.int 50), some (.int (nI z2))], [.int (nI (szP g 50 p3))], mjH (mjU I 22 0 (nI (numD g z1 p1 0))) X) _
      refine mjGo.run 0 (pc' := 56) (F' := ([some (.ref 0), some (.ref (27 + 2 * e)), some (.int (nI p)), some (.ref 1000000), some (.int (nI p3)), some (.int 1), some (.int 2), some (.int 50), some (.int (nI z2))], [.int (nI (szP g 50 p3))], mjH (mjU I 22 0 (nI (numD g z1 p1 0))) X)) (fun _ => rfl) ?_
      obtain ⟨z3, hz3⟩ : ∃ t, t = szP g 50 p3 := ⟨_, rfl⟩
      have b3 : z3 ≤ 3 := by rw [hz3]; exact szP_3
      rw [show (nI (szP g 50 p3)) = nI z3 from congrArg nI hz3.symm]
      refine mjGo.run 3 (pc' := (bif decide ((nI z3) ≠ 0) then 68 else 63)) (F' := ([some (.ref 0), some (.ref (27 + 2 * e)), some (.int (nI p)), some (.ref 1000000), some (.int (nI p3)), some (.int 1), some (.int 2), some (.int 50), some (.int (nI z3))], [], mjH (mjU I 22 0 (nI (numD g z1 p1 0))) X)) (fun _ => rfl) ?_
      refine mjGo.br (fun q3 => ?_) (fun q3 => ?_)
      · show mjGo _ _ 68 _ _
        refine mjGo.run 18 (pc' := 115) (F' := ([some (.ref 0), some (.ref (27 + 2 * e)), some (.int (nI p)), some (.ref 1000000), some (.int (nI p3)), some (.int 1), some (.int 2), some (.int 50), some (.int (nI z3))], [.int (nI z3), .int (nI p3), .ref (27 + 2 * e), .int 1, .ref 22], mjH (mjU I 22 0 (nI (numD g z1 p1 0))) X)) (fun _ => rfl) ?_
        refine mjGo.call (n := 3) (j := 84) (nx := 118) (o := some (.int (nI (numD g z3 p3 0)))) (h' := mjH (mjU I 22 0 (nI (numD g z1 p1 0))) X) (fun _ => rfl) (c_xNum (d + 1) (X := X) he (gOf.u hg) (by omega) (fun i hi => nDg_dg (m := 2) (by rw [hz3] at hi; exact hi))) ?_
        show mjGo _ _ 118 ([some (.ref 0), some (.ref (27 + 2 * e)), some (.int (nI p)), some (.ref 1000000), some (.int (nI p3)), some (.int 1), some (.int 2), some (.int 50), some (.int (nI z3))], [.int (nI (numD g z3 p3 0)), .int 1, .ref 22], mjH (mjU I 22 0 (nI (numD g z1 p1 0))) X) _
        refine mjGo.run 2 (pc' := 122) (F' := ([some (.ref 0), some (.ref (27 + 2 * e)), some (.int (nI p)), some (.ref 1000000), some (.int (nI p3)), some (.int (1 + 1)), some (.int 2), some (.int 50), some (.int (nI z3))], [], mjH (mjU (mjU I 22 0 (nI (numD g z1 p1 0))) 22 1 (nI (numD g z3 p3 0))) X)) (fun _ => rfl) ?_
        refine mjGo.run 0 (pc' := 122) (F' := ([some (.ref 0), some (.ref (27 + 2 * e)), some (.int (nI p)), some (.ref 1000000), some (.int (nI p3)), some (.int (1 + 1)), some (.int 2), some (.int 50), some (.int (nI z3))], [], mjH (mjU (mjU I 22 0 (nI (numD g z1 p1 0))) 22 1 (nI (numD g z3 p3 0))) X)) (fun _ => rfl) ?_
        rw [show (1 + 1 : Int32) = 2 from by decide]
        refine mjGo.run 3 (pc' := 127) (F' := ([some (.ref 0), some (.ref (27 + 2 * e)), some (.int (nI p)), some (.ref 1000000), some (.int (nI p3)), some (.int 2), some (.int 2), some (.int 50), some (.int (nI z3))], [.int ((nI p3) + (nI z3))], mjH (mjU (mjU I 22 0 (nI (numD g z1 p1 0))) 22 1 (nI (numD g z3 p3 0))) X)) (fun _ => rfl) ?_
        refine mjGo.run 0 (pc' := 127) (F' := ([some (.ref 0), some (.ref (27 + 2 * e)), some (.int (nI p)), some (.ref 1000000), some (.int (nI p3)), some (.int 2), some (.int 2), some (.int 50), some (.int (nI z3))], [.int ((nI p3) + (nI z3))], mjH (mjU (mjU I 22 0 (nI (numD g z1 p1 0))) 22 1 (nI (numD g z3 p3 0))) X)) (fun _ => rfl) ?_
        obtain ⟨p4, hp4⟩ : ∃ t, t = p3 + z3 := ⟨_, rfl⟩
        rw [show ((nI p3) + (nI z3)) = nI p4 from (nI_add _ _).trans (congrArg nI hp4.symm)]
        refine mjGo.run 2 (pc' := 132) (F' := ([some (.ref 0), some (.ref (27 + 2 * e)), some (.int (nI p)), some (.ref 1000000), some (.int (nI p4)), some (.int 2), some (.int (2 + 1)), some (.int 50), some (.int (nI z3))], [], mjH (mjU (mjU I 22 0 (nI (numD g z1 p1 0))) 22 1 (nI (numD g z3 p3 0))) X)) (fun _ => rfl) ?_
        refine mjGo.run 0 (pc' := 132) (F' := ([some (.ref 0), some (.ref (27 + 2 * e)), some (.int (nI p)), some (.ref 1000000), some (.int (nI p4)), some (.int 2), some (.int (2 + 1)), some (.int 50), some (.int (nI z3))], [], mjH (mjU (mjU I 22 0 (nI (numD g z1 p1 0))) 22 1 (nI (numD g z3 p3 0))) X)) (fun _ => rfl) ?_
        rw [show (2 + 1 : Int32) = 3 from by decide]
        refine mjGo.run 3 (pc' := 34) (F' := ([some (.ref 0), some (.ref (27 + 2 * e)), some (.int (nI p)), some (.ref 1000000), some (.int (nI p4)), some (.int 2), some (.int 3), some (.int 50), some (.int (nI z3))], [.ref 1000000, .int 3], mjH (mjU (mjU I 22 0 (nI (numD g z1 p1 0))) 22 1 (nI (numD g z3 p3 0))) X)) (fun _ => rfl) ?_
        refine mjGo.call (n := 1) (j := 3) (nx := 37) (o := some (.int 6)) (h' := mjH (mjU (mjU I 22 0 (nI (numD g z1 p1 0))) 22 1 (nI (numD g z3 p3 0))) X) (fun _ => rfl) (t_ln0 d _) ?_
        show mjGo _ _ 37 ([some (.ref 0), some (.ref (27 + 2 * e)), some (.int (nI p)), some (.ref 1000000), some (.int (nI p4)), some (.int 2), some (.int 3), some (.int 50), some (.int (nI z3))], [.int 6, .int 3], mjH (mjU (mjU I 22 0 (nI (numD g z1 p1 0))) 22 1 (nI (numD g z3 p3 0))) X) _
        refine mjGo.run 3 (pc' := 43) (F' := ([some (.ref 0), some (.ref (27 + 2 * e)), some (.int (nI p)), some (.ref 1000000), some (.int (nI p4)), some (.int 2), some (.int 3), some (.int 50), some (.int (nI z3))], [.int 3, .ref 1000000], mjH (mjU (mjU I 22 0 (nI (numD g z1 p1 0))) 22 1 (nI (numD g z3 p3 0))) X)) (fun _ => rfl) ?_
        refine mjGo.call (n := 2) (j := 8) (nx := 46) (o := some (.int 32)) (h' := mjH (mjU (mjU I 22 0 (nI (numD g z1 p1 0))) 22 1 (nI (numD g z3 p3 0))) X) (fun _ => rfl) (t_ch0_3 d _) ?_
        show mjGo _ _ 46 ([some (.ref 0), some (.ref (27 + 2 * e)), some (.int (nI p)), some (.ref 1000000), some (.int (nI p4)), some (.int 2), some (.int 3), some (.int 50), some (.int (nI z3))], [.int 32], mjH (mjU (mjU I 22 0 (nI (numD g z1 p1 0))) 22 1 (nI (numD g z3 p3 0))) X) _
        refine mjGo.run 4 (pc' := 53) (F' := ([some (.ref 0), some (.ref (27 + 2 * e)), some (.int (nI p)), some (.ref 1000000), some (.int (nI p4)), some (.int 2), some (.int 3), some (.int 32), some (.int (nI z3))], [.int 32, .int (nI p4), .ref (27 + 2 * e)], mjH (mjU (mjU I 22 0 (nI (numD g z1 p1 0))) 22 1 (nI (numD g z3 p3 0))) X)) (fun _ => rfl) ?_
        refine mjGo.call (n := 3) (j := 83) (nx := 56) (o := some (.int (nI (szP g 32 p4)))) (h' := mjH (mjU (mjU I 22 0 (nI (numD g z1 p1 0))) 22 1 (nI (numD g z3 p3 0))) X) (fun _ => rfl) (c_xSz32 d (X := X) he (gOf.u (gOf.u hg)) (by omega)) ?_
        show mjGo _ _ 56 ([some (.ref 0), some (.ref (27 + 2 * e)), some (.int (nI p)), some (.ref 1000000), some (.int (nI p4)), some (.int 2), some (.int 3), some (.int 32), some (.int (nI z3))], [.int (nI (szP g 32 p4))], mjH (mjU (mjU I 22 0 (nI (numD g z1 p1 0))) 22 1 (nI (numD g z3 p3 0))) X) _
        refine mjGo.run 0 (pc' := 56) (F' := ([some (.ref 0), some (.ref (27 + 2 * e)), some (.int (nI p)), some (.ref 1000000), some (.int (nI p4)), some (.int 2), some (.int 3), some (.int 32), some (.int (nI z3))], [.int (nI (szP g 32 p4))], mjH (mjU (mjU I 22 0 (nI (numD g z1 p1 0))) 22 1 (nI (numD g z3 p3 0))) X)) (fun _ => rfl) ?_
        obtain ⟨z4, hz4⟩ : ∃ t, t = szP g 32 p4 := ⟨_, rfl⟩
        have b4 : z4 ≤ 3 := by rw [hz4]; exact szP_3
        rw [show (nI (szP g 32 p4)) = nI z4 from congrArg nI hz4.symm]
        refine mjGo.run 3 (pc' := (bif decide ((nI z4) ≠ 0) then 68 else 63)) (F' := ([some (.ref 0), some (.ref (27 + 2 * e)), some (.int (nI p)), some (.ref 1000000), some (.int (nI p4)), some (.int 2), some (.int 3), some (.int 32), some (.int (nI z4))], [], mjH (mjU (mjU I 22 0 (nI (numD g z1 p1 0))) 22 1 (nI (numD g z3 p3 0))) X)) (fun _ => rfl) ?_
        refine mjGo.br (fun q4 => ?_) (fun q4 => ?_)
        · show mjGo _ _ 68 _ _
          refine mjGo.run 3 (pc' := 122) (F' := ([some (.ref 0), some (.ref (27 + 2 * e)), some (.int (nI p)), some (.ref 1000000), some (.int (nI p4)), some (.int 2), some (.int 3), some (.int 32), some (.int (nI z4))], [], mjH (mjU (mjU I 22 0 (nI (numD g z1 p1 0))) 22 1 (nI (numD g z3 p3 0))) X)) (fun _ => rfl) ?_
          refine mjGo.run 3 (pc' := 127) (F' := ([some (.ref 0), some (.ref (27 + 2 * e)), some (.int (nI p)), some (.ref 1000000), some (.int (nI p4)), some (.int 2), some (.int 3), some (.int 32), some (.int (nI z4))], [.int ((nI p4) + (nI z4))], mjH (mjU (mjU I 22 0 (nI (numD g z1 p1 0))) 22 1 (nI (numD g z3 p3 0))) X)) (fun _ => rfl) ?_
          refine mjGo.run 0 (pc' := 127) (F' := ([some (.ref 0), some (.ref (27 + 2 * e)), some (.int (nI p)), some (.ref 1000000), some (.int (nI p4)), some (.int 2), some (.int 3), some (.int 32), some (.int (nI z4))], [.int ((nI p4) + (nI z4))], mjH (mjU (mjU I 22 0 (nI (numD g z1 p1 0))) 22 1 (nI (numD g z3 p3 0))) X)) (fun _ => rfl) ?_
          obtain ⟨p5, hp5⟩ : ∃ t, t = p4 + z4 := ⟨_, rfl⟩
          rw [show ((nI p4) + (nI z4)) = nI p5 from (nI_add _ _).trans (congrArg nI hp5.symm)]
          refine mjGo.run 2 (pc' := 132) (F' := ([some (.ref 0), some (.ref (27 + 2 * e)), some (.int (nI p)), some (.ref 1000000), some (.int (nI p5)), some (.int 2), some (.int (3 + 1)), some (.int 32), some (.int (nI z4))], [], mjH (mjU (mjU I 22 0 (nI (numD g z1 p1 0))) 22 1 (nI (numD g z3 p3 0))) X)) (fun _ => rfl) ?_
          refine mjGo.run 0 (pc' := 132) (F' := ([some (.ref 0), some (.ref (27 + 2 * e)), some (.int (nI p)), some (.ref 1000000), some (.int (nI p5)), some (.int 2), some (.int (3 + 1)), some (.int 32), some (.int (nI z4))], [], mjH (mjU (mjU I 22 0 (nI (numD g z1 p1 0))) 22 1 (nI (numD g z3 p3 0))) X)) (fun _ => rfl) ?_
          rw [show (3 + 1 : Int32) = 4 from by decide]
          refine mjGo.run 3 (pc' := 34) (F' := ([some (.ref 0), some (.ref (27 + 2 * e)), some (.int (nI p)), some (.ref 1000000), some (.int (nI p5)), some (.int 2), some (.int 4), some (.int 32), some (.int (nI z4))], [.ref 1000000, .int 4], mjH (mjU (mjU I 22 0 (nI (numD g z1 p1 0))) 22 1 (nI (numD g z3 p3 0))) X)) (fun _ => rfl) ?_
          refine mjGo.call (n := 1) (j := 3) (nx := 37) (o := some (.int 6)) (h' := mjH (mjU (mjU I 22 0 (nI (numD g z1 p1 0))) 22 1 (nI (numD g z3 p3 0))) X) (fun _ => rfl) (t_ln0 d _) ?_
          show mjGo _ _ 37 ([some (.ref 0), some (.ref (27 + 2 * e)), some (.int (nI p)), some (.ref 1000000), some (.int (nI p5)), some (.int 2), some (.int 4), some (.int 32), some (.int (nI z4))], [.int 6, .int 4], mjH (mjU (mjU I 22 0 (nI (numD g z1 p1 0))) 22 1 (nI (numD g z3 p3 0))) X) _
          refine mjGo.run 3 (pc' := 43) (F' := ([some (.ref 0), some (.ref (27 + 2 * e)), some (.int (nI p)), some (.ref 1000000), some (.int (nI p5)), some (.int 2), some (.int 4), some (.int 32), some (.int (nI z4))], [.int 4, .ref 1000000], mjH (mjU (mjU I 22 0 (nI (numD g z1 p1 0))) 22 1 (nI (numD g z3 p3 0))) X)) (fun _ => rfl) ?_
          refine mjGo.call (n := 2) (j := 8) (nx := 46) (o := some (.int 49)) (h' := mjH (mjU (mjU I 22 0 (nI (numD g z1 p1 0))) 22 1 (nI (numD g z3 p3 0))) X) (fun _ => rfl) (t_ch0_4 d _) ?_
          show mjGo _ _ 46 ([some (.ref 0), some (.ref (27 + 2 * e)), some (.int (nI p)), some (.ref 1000000), some (.int (nI p5)), some (.int 2), some (.int 4), some (.int 32), some (.int (nI z4))], [.int 49], mjH (mjU (mjU I 22 0 (nI (numD g z1 p1 0))) 22 1 (nI (numD g z3 p3 0))) X) _
          refine mjGo.run 4 (pc' := 53) (F' := ([some (.ref 0), some (.ref (27 + 2 * e)), some (.int (nI p)), some (.ref 1000000), some (.int (nI p5)), some (.int 2), some (.int 4), some (.int 49), some (.int (nI z4))], [.int 49, .int (nI p5), .ref (27 + 2 * e)], mjH (mjU (mjU I 22 0 (nI (numD g z1 p1 0))) 22 1 (nI (numD g z3 p3 0))) X)) (fun _ => rfl) ?_
          refine mjGo.call (n := 3) (j := 83) (nx := 56) (o := some (.int (nI (szP g 49 p5)))) (h' := mjH (mjU (mjU I 22 0 (nI (numD g z1 p1 0))) 22 1 (nI (numD g z3 p3 0))) X) (fun _ => rfl) (c_xSz49 d (X := X) he (gOf.u (gOf.u hg)) (by omega)) ?_
          show mjGo _ _ 56 ([some (.ref 0), some (.ref (27 + 2 * e)), some (.int (nI p)), some (.ref 1000000), some (.int (nI p5)), some (.int 2), some (.int 4), some (.int 49), some (.int (nI z4))], [.int (nI (szP g 49 p5))], mjH (mjU (mjU I 22 0 (nI (numD g z1 p1 0))) 22 1 (nI (numD g z3 p3 0))) X) _
          refine mjGo.run 0 (pc' := 56) (F' := ([some (.ref 0), some (.ref (27 + 2 * e)), some (.int (nI p)), some (.ref 1000000), some (.int (nI p5)), some (.int 2), some (.int 4), some (.int 49), some (.int (nI z4))], [.int (nI (szP g 49 p5))], mjH (mjU (mjU I 22 0 (nI (numD g z1 p1 0))) 22 1 (nI (numD g z3 p3 0))) X)) (fun _ => rfl) ?_
          obtain ⟨z5, hz5⟩ : ∃ t, t = szP g 49 p5 := ⟨_, rfl⟩
          have b5 : z5 ≤ 3 := by rw [hz5]; exact szP_3
          rw [show (nI (szP g 49 p5)) = nI z5 from congrArg nI hz5.symm]
          refine mjGo.run 3 (pc' := (bif decide ((nI z5) ≠ 0) then 68 else 63)) (F' := ([some (.ref 0), some (.ref (27 + 2 * e)), some (.int (nI p)), some (.ref 1000000), some (.int (nI p5)), some (.int 2), some (.int 4), some (.int 49), some (.int (nI z5))], [], mjH (mjU (mjU I 22 0 (nI (numD g z1 p1 0))) 22 1 (nI (numD g z3 p3 0))) X)) (fun _ => rfl) ?_
          refine mjGo.br (fun q5 => ?_) (fun q5 => ?_)
          · show mjGo _ _ 68 _ _
            refine mjGo.run 18 (pc' := 115) (F' := ([some (.ref 0), some (.ref (27 + 2 * e)), some (.int (nI p)), some (.ref 1000000), some (.int (nI p5)), some (.int 2), some (.int 4), some (.int 49), some (.int (nI z5))], [.int (nI z5), .int (nI p5), .ref (27 + 2 * e), .int 2, .ref 22], mjH (mjU (mjU I 22 0 (nI (numD g z1 p1 0))) 22 1 (nI (numD g z3 p3 0))) X)) (fun _ => rfl) ?_
            refine mjGo.call (n := 3) (j := 84) (nx := 118) (o := some (.int (nI (numD g z5 p5 0)))) (h' := mjH (mjU (mjU I 22 0 (nI (numD g z1 p1 0))) 22 1 (nI (numD g z3 p3 0))) X) (fun _ => rfl) (c_xNum (d + 1) (X := X) he (gOf.u (gOf.u hg)) (by omega) (fun i hi => nDg_dg (m := 1) (by rw [hz5] at hi; exact hi))) ?_
            show mjGo _ _ 118 ([some (.ref 0), some (.ref (27 + 2 * e)), some (.int (nI p)), some (.ref 1000000), some (.int (nI p5)), some (.int 2), some (.int 4), some (.int 49), some (.int (nI z5))], [.int (nI (numD g z5 p5 0)), .int 2, .ref 22], mjH (mjU (mjU I 22 0 (nI (numD g z1 p1 0))) 22 1 (nI (numD g z3 p3 0))) X) _
            refine mjGo.run 2 (pc' := 122) (F' := ([some (.ref 0), some (.ref (27 + 2 * e)), some (.int (nI p)), some (.ref 1000000), some (.int (nI p5)), some (.int (2 + 1)), some (.int 4), some (.int 49), some (.int (nI z5))], [], mjH (mjU (mjU (mjU I 22 0 (nI (numD g z1 p1 0))) 22 1 (nI (numD g z3 p3 0))) 22 2 (nI (numD g z5 p5 0))) X)) (fun _ => rfl) ?_
            refine mjGo.run 0 (pc' := 122) (F' := ([some (.ref 0), some (.ref (27 + 2 * e)), some (.int (nI p)), some (.ref 1000000), some (.int (nI p5)), some (.int (2 + 1)), some (.int 4), some (.int 49), some (.int (nI z5))], [], mjH (mjU (mjU (mjU I 22 0 (nI (numD g z1 p1 0))) 22 1 (nI (numD g z3 p3 0))) 22 2 (nI (numD g z5 p5 0))) X)) (fun _ => rfl) ?_
            rw [show (2 + 1 : Int32) = 3 from by decide]
            refine mjGo.run 3 (pc' := 127) (F' := ([some (.ref 0), some (.ref (27 + 2 * e)), some (.int (nI p)), some (.ref 1000000), some (.int (nI p5)), some (.int 3), some (.int 4), some (.int 49), some (.int (nI z5))], [.int ((nI p5) + (nI z5))], mjH (mjU (mjU (mjU I 22 0 (nI (numD g z1 p1 0))) 22 1 (nI (numD g z3 p3 0))) 22 2 (nI (numD g z5 p5 0))) X)) (fun _ => rfl) ?_
            refine mjGo.run 0 (pc' := 127) (F' := ([some (.ref 0), some (.ref (27 + 2 * e)), some (.int (nI p)), some (.ref 1000000), some (.int (nI p5)), some (.int 3), some (.int 4), some (.int 49), some (.int (nI z5))], [.int ((nI p5) + (nI z5))], mjH (mjU (mjU (mjU I 22 0 (nI (numD g z1 p1 0))) 22 1 (nI (numD g z3 p3 0))) 22 2 (nI (numD g z5 p5 0))) X)) (fun _ => rfl) ?_
            obtain ⟨p6, hp6⟩ : ∃ t, t = p5 + z5 := ⟨_, rfl⟩
            rw [show ((nI p5) + (nI z5)) = nI p6 from (nI_add _ _).trans (congrArg nI hp6.symm)]
            refine mjGo.run 2 (pc' := 132) (F' := ([some (.ref 0), some (.ref (27 + 2 * e)), some (.int (nI p)), some (.ref 1000000), some (.int (nI p6)), some (.int 3), some (.int (4 + 1)), some (.int 49), some (.int (nI z5))], [], mjH (mjU (mjU (mjU I 22 0 (nI (numD g z1 p1 0))) 22 1 (nI (numD g z3 p3 0))) 22 2 (nI (numD g z5 p5 0))) X)) (fun _ => rfl) ?_
            refine mjGo.run 0 (pc' := 132) (F' := ([some (.ref 0), some (.ref (27 + 2 * e)), some (.int (nI p)), some (.ref 1000000), some (.int (nI p6)), some (.int 3), some (.int (4 + 1)), some (.int 49), some (.int (nI z5))], [], mjH (mjU (mjU (mjU I 22 0 (nI (numD g z1 p1 0))) 22 1 (nI (numD g z3 p3 0))) 22 2 (nI (numD g z5 p5 0))) X)) (fun _ => rfl) ?_
            rw [show (4 + 1 : Int32) = 5 from by decide]
            refine mjGo.run 3 (pc' := 34) (F' := ([some (.ref 0), some (.ref (27 + 2 * e)), some (.int (nI p)), some (.ref 1000000), some (.int (nI p6)), some (.int 3), some (.int 5), some (.int 49), some (.int (nI z5))], [.ref 1000000, .int 5], mjH (mjU (mjU (mjU I 22 0 (nI (numD g z1 p1 0))) 22 1 (nI (numD g z3 p3 0))) 22 2 (nI (numD g z5 p5 0))) X)) (fun _ => rfl) ?_
            refine mjGo.call (n := 1) (j := 3) (nx := 37) (o := some (.int 6)) (h' := mjH (mjU (mjU (mjU I 22 0 (nI (numD g z1 p1 0))) 22 1 (nI (numD g z3 p3 0))) 22 2 (nI (numD g z5 p5 0))) X) (fun _ => rfl) (t_ln0 d _) ?_
            show mjGo _ _ 37 ([some (.ref 0), some (.ref (27 + 2 * e)), some (.int (nI p)), some (.ref 1000000), some (.int (nI p6)), some (.int 3), some (.int 5), some (.int 49), some (.int (nI z5))], [.int 6, .int 5], mjH (mjU (mjU (mjU I 22 0 (nI (numD g z1 p1 0))) 22 1 (nI (numD g z3 p3 0))) 22 2 (nI (numD g z5 p5 0))) X) _
            refine mjGo.run 3 (pc' := 43) (F' := ([some (.ref 0), some (.ref (27 + 2 * e)), some (.int (nI p)), some (.ref 1000000), some (.int (nI p6)), some (.int 3), some (.int 5), some (.int 49), some (.int (nI z5))], [.int 5, .ref 1000000], mjH (mjU (mjU (mjU I 22 0 (nI (numD g z1 p1 0))) 22 1 (nI (numD g z3 p3 0))) 22 2 (nI (numD g z5 p5 0))) X)) (fun _ => rfl) ?_
            refine mjGo.call (n := 2) (j := 8) (nx := 46) (o := some (.int 59)) (h' := mjH (mjU (mjU (mjU I 22 0 (nI (numD g z1 p1 0))) 22 1 (nI (numD g z3 p3 0))) 22 2 (nI (numD g z5 p5 0))) X) (fun _ => rfl) (t_ch0_5 d _) ?_
            show mjGo _ _ 46 ([some (.ref 0), some (.ref (27 + 2 * e)), some (.int (nI p)), some (.ref 1000000), some (.int (nI p6)), some (.int 3), some (.int 5), some (.int 49), some (.int (nI z5))], [.int 59], mjH (mjU (mjU (mjU I 22 0 (nI (numD g z1 p1 0))) 22 1 (nI (numD g z3 p3 0))) 22 2 (nI (numD g z5 p5 0))) X) _
            refine mjGo.run 4 (pc' := 53) (F' := ([some (.ref 0), some (.ref (27 + 2 * e)), some (.int (nI p)), some (.ref 1000000), some (.int (nI p6)), some (.int 3), some (.int 5), some (.int 59), some (.int (nI z5))], [.int 59, .int (nI p6), .ref (27 + 2 * e)], mjH (mjU (mjU (mjU I 22 0 (nI (numD g z1 p1 0))) 22 1 (nI (numD g z3 p3 0))) 22 2 (nI (numD g z5 p5 0))) X)) (fun _ => rfl) ?_
            refine mjGo.call (n := 3) (j := 83) (nx := 56) (o := some (.int (nI (szP g 59 p6)))) (h' := mjH (mjU (mjU (mjU I 22 0 (nI (numD g z1 p1 0))) 22 1 (nI (numD g z3 p3 0))) 22 2 (nI (numD g z5 p5 0))) X) (fun _ => rfl) (c_xSz59 d (X := X) he (gOf.u (gOf.u (gOf.u hg))) (by omega)) ?_
            show mjGo _ _ 56 ([some (.ref 0), some (.ref (27 + 2 * e)), some (.int (nI p)), some (.ref 1000000), some (.int (nI p6)), some (.int 3), some (.int 5), some (.int 59), some (.int (nI z5))], [.int (nI (szP g 59 p6))], mjH (mjU (mjU (mjU I 22 0 (nI (numD g z1 p1 0))) 22 1 (nI (numD g z3 p3 0))) 22 2 (nI (numD g z5 p5 0))) X) _
            refine mjGo.run 0 (pc' := 56) (F' := ([some (.ref 0), some (.ref (27 + 2 * e)), some (.int (nI p)), some (.ref 1000000), some (.int (nI p6)), some (.int 3), some (.int 5), some (.int 59), some (.int (nI z5))], [.int (nI (szP g 59 p6))], mjH (mjU (mjU (mjU I 22 0 (nI (numD g z1 p1 0))) 22 1 (nI (numD g z3 p3 0))) 22 2 (nI (numD g z5 p5 0))) X)) (fun _ => rfl) ?_
            obtain ⟨z6, hz6⟩ : ∃ t, t = szP g 59 p6 := ⟨_, rfl⟩
            have b6 : z6 ≤ 3 := by rw [hz6]; exact szP_3
            rw [show (nI (szP g 59 p6)) = nI z6 from congrArg nI hz6.symm]
            refine mjGo.run 3 (pc' := (bif decide ((nI z6) ≠ 0) then 68 else 63)) (F' := ([some (.ref 0), some (.ref (27 + 2 * e)), some (.int (nI p)), some (.ref 1000000), some (.int (nI p6)), some (.int 3), some (.int 5), some (.int 59), some (.int (nI z6))], [], mjH (mjU (mjU (mjU I 22 0 (nI (numD g z1 p1 0))) 22 1 (nI (numD g z3 p3 0))) 22 2 (nI (numD g z5 p5 0))) X)) (fun _ => rfl) ?_
            refine mjGo.br (fun q6 => ?_) (fun q6 => ?_)
            · show mjGo _ _ 68 _ _
              refine mjGo.run 6 (pc' := 122) (F' := ([some (.ref 0), some (.ref (27 + 2 * e)), some (.int (nI p)), some (.ref 1000000), some (.int (nI p6)), some (.int 3), some (.int 5), some (.int 59), some (.int (nI z6))], [], mjH (mjU (mjU (mjU I 22 0 (nI (numD g z1 p1 0))) 22 1 (nI (numD g z3 p3 0))) 22 2 (nI (numD g z5 p5 0))) X)) (fun _ => rfl) ?_
              refine mjGo.run 3 (pc' := 127) (F' := ([some (.ref 0), some (.ref (27 + 2 * e)), some (.int (nI p)), some (.ref 1000000), some (.int (nI p6)), some (.int 3), some (.int 5), some (.int 59), some (.int (nI z6))], [.int ((nI p6) + (nI z6))], mjH (mjU (mjU (mjU I 22 0 (nI (numD g z1 p1 0))) 22 1 (nI (numD g z3 p3 0))) 22 2 (nI (numD g z5 p5 0))) X)) (fun _ => rfl) ?_
              refine mjGo.run 0 (pc' := 127) (F' := ([some (.ref 0), some (.ref (27 + 2 * e)), some (.int (nI p)), some (.ref 1000000), some (.int (nI p6)), some (.int 3), some (.int 5), some (.int 59), some (.int (nI z6))], [.int ((nI p6) + (nI z6))], mjH (mjU (mjU (mjU I 22 0 (nI (numD g z1 p1 0))) 22 1 (nI (numD g z3 p3 0))) 22 2 (nI (numD g z5 p5 0))) X)) (fun _ => rfl) ?_
              obtain ⟨p7, hp7⟩ : ∃ t, t = p6 + z6 := ⟨_, rfl⟩
              rw [show ((nI p6) + (nI z6)) = nI p7 from (nI_add _ _).trans (congrArg nI hp7.symm)]
              refine mjGo.run 2 (pc' := 132) (F' := ([some (.ref 0), some (.ref (27 + 2 * e)), some (.int (nI p)), some (.ref 1000000), some (.int (nI p7)), some (.int 3), some (.int (5 + 1)), some (.int 59), some (.int (nI z6))], [], mjH (mjU (mjU (mjU I 22 0 (nI (numD g z1 p1 0))) 22 1 (nI (numD g z3 p3 0))) 22 2 (nI (numD g z5 p5 0))) X)) (fun _ => rfl) ?_
              refine mjGo.run 0 (pc' := 132) (F' := ([some (.ref 0), some (.ref (27 + 2 * e)), some (.int (nI p)), some (.ref 1000000), some (.int (nI p7)), some (.int 3), some (.int (5 + 1)), some (.int 59), some (.int (nI z6))], [], mjH (mjU (mjU (mjU I 22 0 (nI (numD g z1 p1 0))) 22 1 (nI (numD g z3 p3 0))) 22 2 (nI (numD g z5 p5 0))) X)) (fun _ => rfl) ?_
              rw [show (5 + 1 : Int32) = 6 from by decide]
              refine mjGo.run 3 (pc' := 34) (F' := ([some (.ref 0), some (.ref (27 + 2 * e)), some (.int (nI p)), some (.ref 1000000), some (.int (nI p7)), some (.int 3), some (.int 6), some (.int 59), some (.int (nI z6))], [.ref 1000000, .int 6], mjH (mjU (mjU (mjU I 22 0 (nI (numD g z1 p1 0))) 22 1 (nI (numD g z3 p3 0))) 22 2 (nI (numD g z5 p5 0))) X)) (fun _ => rfl) ?_
              refine mjGo.call (n := 1) (j := 3) (nx := 37) (o := some (.int 6)) (h' := mjH (mjU (mjU (mjU I 22 0 (nI (numD g z1 p1 0))) 22 1 (nI (numD g z3 p3 0))) 22 2 (nI (numD g z5 p5 0))) X) (fun _ => rfl) (t_ln0 d _) ?_
              show mjGo _ _ 37 ([some (.ref 0), some (.ref (27 + 2 * e)), some (.int (nI p)), some (.ref 1000000), some (.int (nI p7)), some (.int 3), some (.int 6), some (.int 59), some (.int (nI z6))], [.int 6, .int 6], mjH (mjU (mjU (mjU I 22 0 (nI (numD g z1 p1 0))) 22 1 (nI (numD g z3 p3 0))) 22 2 (nI (numD g z5 p5 0))) X) _
              have e9 : rdE g [51, 32, 50, 32, 49, 59] p1 = (p7, true) := by rw [rdE_t (by rw [← hz1]; exact q1), ← hz1, ← hp2, rdE_t (by rw [← hz2]; exact q2), ← hz2, ← hp3, rdE_t (by rw [← hz3]; exact q3), ← hz3, ← hp4, rdE_t (by rw [← hz4]; exact q4), ← hz4, ← hp5, rdE_t (by rw [← hz5]; exact q5), ← hz5, ← hp6, rdE_t (by rw [← hz6]; exact q6), ← hz6, ← hp7, rdE]
              refine mjGo.ret 3 (fun _ => rfl) ⟨_, rfl, (mjU (mjU (mjU I 22 0 (nI (numD g z1 p1 0))) 22 1 (nI (numD g z3 p3 0))) 22 2 (nI (numD g z5 p5 0))), rfl, fun k hk => by rw [mjU_r hk, mjU_r hk, mjU_r hk], ?_, fun _ i hi => ?_⟩
              · rw [e9]; rfl
              · have ev : vls g [51, 32, 50, 32, 49, 59] p1 = [nI (numD g z1 p1 0), nI (numD g z3 p3 0), nI (numD g z5 p5 0)] := by rw [vls, if_neg (by decide), ← hz1, ← hp2, vls, if_pos (by decide), ← hz2, ← hp3, vls, if_neg (by decide), ← hz3, ← hp4, vls, if_pos (by decide), ← hz4, ← hp5, vls, if_neg (by decide), ← hz5, ← hp6, vls, if_pos (by decide), ← hz6, ← hp7, vls, vlP_n (c := 51) (p := p1) (by decide), ← hz1, vlP_n (c := 50) (p := p3) (by decide), ← hz3, vlP_n (c := 49) (p := p5) (by decide), ← hz5]
                rw [ev]
                match i, hi with
                | 0, _ => rfl
                | 1, _ => rfl
                | 2, _ => rfl
            · show mjGo _ _ 63 _ _
              have e9 : rdE g [51, 32, 50, 32, 49, 59] p1 = (p6, false) := by rw [rdE_t (by rw [← hz1]; exact q1), ← hz1, ← hp2, rdE_t (by rw [← hz2]; exact q2), ← hz2, ← hp3, rdE_t (by rw [← hz3]; exact q3), ← hz3, ← hp4, rdE_t (by rw [← hz4]; exact q4), ← hz4, ← hp5, rdE_t (by rw [← hz5]; exact q5), ← hz5, ← hp6, rdE_f (by rw [← hz6]; exact q6)]
              refine mjGo.ret 4 (fun _ => rfl) ⟨_, rfl, (mjU (mjU (mjU I 22 0 (nI (numD g z1 p1 0))) 22 1 (nI (numD g z3 p3 0))) 22 2 (nI (numD g z5 p5 0))), rfl, fun k hk => by rw [mjU_r hk, mjU_r hk, mjU_r hk], ?_, fun w => ?_⟩
              · rw [e9]; rfl
              · rw [e9] at w; cases w
          · show mjGo _ _ 63 _ _
            have e9 : rdE g [51, 32, 50, 32, 49, 59] p1 = (p5, false) := by rw [rdE_t (by rw [← hz1]; exact q1), ← hz1, ← hp2, rdE_t (by rw [← hz2]; exact q2), ← hz2, ← hp3, rdE_t (by rw [← hz3]; exact q3), ← hz3, ← hp4, rdE_t (by rw [← hz4]; exact q4), ← hz4, ← hp5, rdE_f (by rw [← hz5]; exact q5)]
            refine mjGo.ret 4 (fun _ => rfl) ⟨_, rfl, (mjU (mjU I 22 0 (nI (numD g z1 p1 0))) 22 1 (nI (numD g z3 p3 0))), rfl, fun k hk => by rw [mjU_r hk, mjU_r hk], ?_, fun w => ?_⟩
            · rw [e9]; rfl
            · rw [e9] at w; cases w
        · show mjGo _ _ 63 _ _
          have e9 : rdE g [51, 32, 50, 32, 49, 59] p1 = (p4, false) := by rw [rdE_t (by rw [← hz1]; exact q1), ← hz1, ← hp2, rdE_t (by rw [← hz2]; exact q2), ← hz2, ← hp3, rdE_t (by rw [← hz3]; exact q3), ← hz3, ← hp4, rdE_f (by rw [← hz4]; exact q4)]
          refine mjGo.ret 4 (fun _ => rfl) ⟨_, rfl, (mjU (mjU I 22 0 (nI (numD g z1 p1 0))) 22 1 (nI (numD g z3 p3 0))), rfl, fun k hk => by rw [mjU_r hk, mjU_r hk], ?_, fun w => ?_⟩
          · rw [e9]; rfl
          · rw [e9] at w; cases w
      · show mjGo _ _ 63 _ _
        have e9 : rdE g [51, 32, 50, 32, 49, 59] p1 = (p3, false) := by rw [rdE_t (by rw [← hz1]; exact q1), ← hz1, ← hp2, rdE_t (by rw [← hz2]; exact q2), ← hz2, ← hp3, rdE_f (by rw [← hz3]; exact q3)]
        refine mjGo.ret 4 (fun _ => rfl) ⟨_, rfl, (mjU I 22 0 (nI (numD g z1 p1 0))), rfl, fun k hk => by rw [mjU_r hk], ?_, fun w => ?_⟩
        · rw [e9]; rfl
        · rw [e9] at w; cases w
    · show mjGo _ _ 63 _ _
      have e9 : rdE g [51, 32, 50, 32, 49, 59] p1 = (p2, false) := by rw [rdE_t (by rw [← hz1]; exact q1), ← hz1, ← hp2, rdE_f (by rw [← hz2]; exact q2)]
      refine mjGo.ret 4 (fun _ => rfl) ⟨_, rfl, (mjU I 22 0 (nI (numD g z1 p1 0))), rfl, fun k hk => by rw [mjU_r hk], ?_, fun w => ?_⟩
      · rw [e9]; rfl
      · rw [e9] at w; cases w
  · show mjGo _ _ 63 _ _
    have e9 : rdE g [51, 32, 50, 32, 49, 59] p1 = (p1, false) := by rw [rdE_f (by rw [← hz1]; exact q1)]
    refine mjGo.ret 4 (fun _ => rfl) ⟨_, rfl, I, rfl, fun k hk => rfl, ?_, fun w => ?_⟩
    · rw [e9]; rfl
    · rw [e9] at w; cases w
theorem c_xRd107 (d : Nat) {e p : Nat} {g : Nat → Int32} {I : Nat → Nat → Int32} {X : MX} (he : e < 8) (hg : gOf I e g) (hp : p < 900) (hl : g p = 107) : mjEvP (d + 4) nyX11_readStatement [.ref 0, .ref (27 + 2 * e), .int (nI p)] (mjH I X) (fun o h2 => ∃ J, h2 = mjH J X ∧ (∀ k, k ≠ 22 → J k = I k) ∧ o = some (.int (rdA (rdE g [49, 49, 43, 50, 32, 51, 59] (p + 1)))) ∧ ((rdE g [49, 49, 43, 50, 32, 51, 59] (p + 1)).2 = true → ∀ i, i < 5 → J 22 i = (vls g [49, 49, 43, 50, 32, 51, 59] (p + 1)).getD i 0)) := by
  refine mjEvP.of ?_
  show mjGo (d + 4) nyX11_readStatement 0 ([some (.ref 0), some (.ref (27 + 2 * e)), some (.int (nI p)), none, none, none, none, none, none], [], mjH I X) _
  obtain ⟨p1, hp1⟩ : ∃ t, t = p + 1 := ⟨_, rfl⟩
  rw [show rdE g [49, 49, 43, 50, 32, 51, 59] (p + 1) = rdE g [49, 49, 43, 50, 32, 51, 59] p1 by rw [hp1], show vls g [49, 49, 43, 50, 32, 51, 59] (p + 1) = vls g [49, 49, 43, 50, 32, 51, 59] p1 by rw [hp1]]
  refine mjGo.run 2 (pc' := 2) (F' := ([some (.ref 0), some (.ref (27 + 2 * e)), some (.int (nI p)), none, none, none, none, none, none], [.int (nI p), .ref (27 + 2 * e)], mjH I X)) (fun _ => rfl) ?_
  refine mjGo.callL (o := some (.int (g p))) (h' := mjH I X) (nx := 5) rfl rfl rfl ((row_N he).1) ⟨_, row_lk he, (by have q9 := c_xVal (d + 2) (I := I) (X := X) e (nI p) he; rw [hg p (by omega)] at q9; exact q9)⟩ ?_
  show mjGo _ _ 5 ([some (.ref 0), some (.ref (27 + 2 * e)), some (.int (nI p)), none, none, none, none, none, none], [.int (g p)], mjH I X) _
  refine mjGo.run 0 (pc' := 5) (F' := ([some (.ref 0), some (.ref (27 + 2 * e)), some (.int (nI p)), none, none, none, none, none, none], [.int (g p)], mjH I X)) (fun _ => rfl) ?_
  rw [show (g p) = 107 from hl]
  refine mjGo.call (n := 1) (j := 79) (nx := 8) (o := some (.ref 1000001)) (h' := mjH I X) (fun _ => rfl) (t_fo1 _ _) ?_
  show mjGo _ _ 8 ([some (.ref 0), some (.ref (27 + 2 * e)), some (.int (nI p)), none, none, none, none, none, none], [.ref 1000001], mjH I X) _
  refine mjGo.run 2 (pc' := 10) (F' := ([some (.ref 0), some (.ref (27 + 2 * e)), some (.int (nI p)), some (.ref 1000001), none, none, none, none, none], [.ref 1000001], mjH I X)) (fun _ => rfl) ?_
  refine mjGo.call (n := 1) (j := 1) (nx := 13) (o := some (.int 0)) (h' := mjH I X) (fun _ => rfl) (t_em1 _ _) ?_
  show mjGo _ _ 13 ([some (.ref 0), some (.ref (27 + 2 * e)), some (.int (nI p)), some (.ref 1000001), none, none, none, none, none], [.int 0], mjH I X) _
  refine mjGo.run 4 (pc' := 23) (F' := ([some (.ref 0), some (.ref (27 + 2 * e)), some (.int (nI p)), some (.ref 1000001), none, none, none, none, none], [.int ((nI p) + 1)], mjH I X)) (fun _ => rfl) ?_
  refine mjGo.run 0 (pc' := 23) (F' := ([some (.ref 0), some (.ref (27 + 2 * e)), some (.int (nI p)), some (.ref 1000001), none, none, none, none, none], [.int ((nI p) + 1)], mjH I X)) (fun _ => rfl) ?_
  rw [show ((nI p) + 1) = nI p1 from (nI_1 p).trans (congrArg nI hp1.symm)]
  refine mjGo.run 5 (pc' := 31) (F' := ([some (.ref 0), some (.ref (27 + 2 * e)), some (.int (nI p)), some (.ref 1000001), some (.int (nI p1)), some (.int 0), some (.int 0), none, none], [], mjH I X)) (fun _ => rfl) ?_
  refine mjGo.run 2 (pc' := 34) (F' := ([some (.ref 0), some (.ref (27 + 2 * e)), some (.int (nI p)), some (.ref 1000001), some (.int (nI p1)), some (.int 0), some (.int 0), none, none], [.ref 1000001, .int 0], mjH I X)) (fun _ => rfl) ?_
  refine mjGo.call (n := 1) (j := 3) (nx := 37) (o := some (.int 7)) (h' := mjH I X) (fun _ => rfl) (t_ln1 d _) ?_
  show mjGo _ _ 37 ([some (.ref 0), some (.ref (27 + 2 * e)), some (.int (nI p)), some (.ref 1000001), some (.int (nI p1)), some (.int 0), some (.int 0), none, none], [.int 7, .int 0], mjH I X) _
  refine mjGo.run 3 (pc' := 43) (F' := ([some (.ref 0), some (.ref (27 + 2 * e)), some (.int (nI p)), some (.ref 1000001), some (.int (nI p1)), some (.int 0), some (.int 0), none, none], [.int 0, .ref 1000001], mjH I X)) (fun _ => rfl) ?_
  refine mjGo.call (n := 2) (j := 8) (nx := 46) (o := some (.int 49)) (h' := mjH I X) (fun _ => rfl) (t_ch1_0 d _) ?_
  show mjGo _ _ 46 ([some (.ref 0), some (.ref (27 + 2 * e)), some (.int (nI p)), some (.ref 1000001), some (.int (nI p1)), some (.int 0), some (.int 0), none, none], [.int 49], mjH I X) _
  refine mjGo.run 4 (pc' := 53) (F' := ([some (.ref 0), some (.ref (27 + 2 * e)), some (.int (nI p)), some (.ref 1000001), some (.int (nI p1)), some (.int 0), some (.int 0), some (.int 49), none], [.int 49, .int (nI p1), .ref (27 + 2 * e)], mjH I X)) (fun _ => rfl) ?_
  refine mjGo.call (n := 3) (j := 83) (nx := 56) (o := some (.int (nI (szP g 49 p1)))) (h' := mjH I X) (fun _ => rfl) (c_xSz49 d (X := X) he hg (by omega)) ?_
  show mjGo _ _ 56 ([some (.ref 0), some (.ref (27 + 2 * e)), some (.int (nI p)), some (.ref 1000001), some (.int (nI p1)), some (.int 0), some (.int 0), some (.int 49), none], [.int (nI (szP g 49 p1))], mjH I X) _
  refine mjGo.run 0 (pc' := 56) (F' := ([some (.ref 0), some (.ref (27 + 2 * e)), some (.int (nI p)), some (.ref 1000001), some (.int (nI p1)), some (.int 0), some (.int 0), some (.int 49), none], [.int (nI (szP g 49 p1))], mjH I X)) (fun _ => rfl) ?_
  obtain ⟨z1, hz1⟩ : ∃ t, t = szP g 49 p1 := ⟨_, rfl⟩
  have b1 : z1 ≤ 3 := by rw [hz1]; exact szP_3
  rw [show (nI (szP g 49 p1)) = nI z1 from congrArg nI hz1.symm]
  refine mjGo.run 3 (pc' := (bif decide ((nI z1) ≠ 0) then 68 else 63)) (F' := ([some (.ref 0), some (.ref (27 + 2 * e)), some (.int (nI p)), some (.ref 1000001), some (.int (nI p1)), some (.int 0), some (.int 0), some (.int 49), some (.int (nI z1))], [], mjH I X)) (fun _ => rfl) ?_
  refine mjGo.br (fun q1 => ?_) (fun q1 => ?_)
  · show mjGo _ _ 68 _ _
    refine mjGo.run 18 (pc' := 115) (F' := ([some (.ref 0), some (.ref (27 + 2 * e)), some (.int (nI p)), some (.ref 1000001), some (.int (nI p1)), some (.int 0), some (.int 0), some (.int 49), some (.int (nI z1))], [.int (nI z1), .int (nI p1), .ref (27 + 2 * e), .int 0, .ref 22], mjH I X)) (fun _ => rfl) ?_
    refine mjGo.call (n := 3) (j := 84) (nx := 118) (o := some (.int (nI (numD g z1 p1 0)))) (h' := mjH I X) (fun _ => rfl) (c_xNum (d + 1) (X := X) he hg (by omega) (fun i hi => nDg_dg (m := 1) (by rw [hz1] at hi; exact hi))) ?_
    show mjGo _ _ 118 ([some (.ref 0), some (.ref (27 + 2 * e)), some (.int (nI p)), some (.ref 1000001), some (.int (nI p1)), some (.int 0), some (.int 0), some (.int 49), some (.int (nI z1))], [.int (nI (numD g z1 p1 0)), .int 0, .ref 22], mjH I X) _
    refine mjGo.run 2 (pc' := 122) (F' := ([some (.ref 0), some (.ref (27 + 2 * e)), some (.int (nI p)), some (.ref 1000001), some (.int (nI p1)), some (.int (0 + 1)), some (.int 0), some (.int 49), some (.int (nI z1))], [], mjH (mjU I 22 0 (nI (numD g z1 p1 0))) X)) (fun _ => rfl) ?_
    refine mjGo.run 0 (pc' := 122) (F' := ([some (.ref 0), some (.ref (27 + 2 * e)), some (.int (nI p)), some (.ref 1000001), some (.int (nI p1)), some (.int (0 + 1)), some (.int 0), some (.int 49), some (.int (nI z1))], [], mjH (mjU I 22 0 (nI (numD g z1 p1 0))) X)) (fun _ => rfl) ?_
    rw [show (0 + 1 : Int32) = 1 from by decide]
    refine mjGo.run 3 (pc' := 127) (F' := ([some (.ref 0), some (.ref (27 + 2 * e)), some (.int (nI p)), some (.ref 1000001), some (.int (nI p1)), some (.int 1), some (.int 0), some (.int 49), some (.int (nI z1))], [.int ((nI p1) + (nI z1))], mjH (mjU I 22 0 (nI (numD g z1 p1 0))) X)) (fun _ => rfl) ?_
    refine mjGo.run 0 (pc' := 127) (F' := ([some (.ref 0), some (.ref (27 + 2 * e)), some (.int (nI p)), some (.ref 1000001), some (.int (nI p1)), some (.int 1), some (.int 0), some (.int 49), some (.int (nI z1))], [.int ((nI p1) + (nI z1))], mjH (mjU I 22 0 (nI (numD g z1 p1 0))) X)) (fun _ => rfl) ?_
    obtain ⟨p2, hp2⟩ : ∃ t, t = p1 + z1 := ⟨_, rfl⟩
    rw [show ((nI p1) + (nI z1)) = nI p2 from (nI_add _ _).trans (congrArg nI hp2.symm)]
    refine mjGo.run 2 (pc' := 132) (F' := ([some (.ref 0), some (.ref (27 + 2 * e)), some (.int (nI p)), some (.ref 1000001), some (.int (nI p2)), some (.int 1), some (.int (0 + 1)), some (.int 49), some (.int (nI z1))], [], mjH (mjU I 22 0 (nI (numD g z1 p1 0))) X)) (fun _ => rfl) ?_
    refine mjGo.run 0 (pc' := 132) (F' := ([some (.ref 0), some (.ref (27 + 2 * e)), some (.int (nI p)), some (.ref 1000001), some (.int (nI p2)), some (.int 1), some (.int (0 + 1)), some (.int 49), some (.int (nI z1))], [], mjH (mjU I 22 0 (nI (numD g z1 p1 0))) X)) (fun _ => rfl) ?_
    rw [show (0 + 1 : Int32) = 1 from by decide]
    refine mjGo.run 1 (pc' := 31) (F' := ([some (.ref 0), some (.ref (27 + 2 * e)), some (.int (nI p)), some (.ref 1000001), some (.int (nI p2)), some (.int 1), some (.int 1), some (.int 49), some (.int (nI z1))], [], mjH (mjU I 22 0 (nI (numD g z1 p1 0))) X)) (fun _ => rfl) ?_
    refine mjGo.run 2 (pc' := 34) (F' := ([some (.ref 0), some (.ref (27 + 2 * e)), some (.int (nI p)), some (.ref 1000001), some (.int (nI p2)), some (.int 1), some (.int 1), some (.int 49), some (.int (nI z1))], [.ref 1000001, .int 1], mjH (mjU I 22 0 (nI (numD g z1 p1 0))) X)) (fun _ => rfl) ?_
    refine mjGo.call (n := 1) (j := 3) (nx := 37) (o := some (.int 7)) (h' := mjH (mjU I 22 0 (nI (numD g z1 p1 0))) X) (fun _ => rfl) (t_ln1 d _) ?_
    show mjGo _ _ 37 ([some (.ref 0), some (.ref (27 + 2 * e)), some (.int (nI p)), some (.ref 1000001), some (.int (nI p2)), some (.int 1), some (.int 1), some (.int 49), some (.int (nI z1))], [.int 7, .int 1], mjH (mjU I 22 0 (nI (numD g z1 p1 0))) X) _
    refine mjGo.run 3 (pc' := 43) (F' := ([some (.ref 0), some (.ref (27 + 2 * e)), some (.int (nI p)), some (.ref 1000001), some (.int (nI p2)), some (.int 1), some (.int 1), some (.int 49), some (.int (nI z1))], [.int 1, .ref 1000001], mjH (mjU I 22 0 (nI (numD g z1 p1 0))) X)) (fun _ => rfl) ?_
    refine mjGo.call (n := 2) (j := 8) (nx := 46) (o := some (.int 49)) (h' := mjH (mjU I 22 0 (nI (numD g z1 p1 0))) X) (fun _ => rfl) (t_ch1_1 d _) ?_
    show mjGo _ _ 46 ([some (.ref 0), some (.ref (27 + 2 * e)), some (.int (nI p)), some (.ref 1000001), some (.int (nI p2)), some (.int 1), some (.int 1), some (.int 49), some (.int (nI z1))], [.int 49], mjH (mjU I 22 0 (nI (numD g z1 p1 0))) X) _
    refine mjGo.run 4 (pc' := 53) (F' := ([some (.ref 0), some (.ref (27 + 2 * e)), some (.int (nI p)), some (.ref 1000001), some (.int (nI p2)), some (.int 1), some (.int 1), some (.int 49), some (.int (nI z1))], [.int 49, .int (nI p2), .ref (27 + 2 * e)], mjH (mjU I 22 0 (nI (numD g z1 p1 0))) X)) (fun _ => rfl) ?_
    refine mjGo.call (n := 3) (j := 83) (nx := 56) (o := some (.int (nI (szP g 49 p2)))) (h' := mjH (mjU I 22 0 (nI (numD g z1 p1 0))) X) (fun _ => rfl) (c_xSz49 d (X := X) he (gOf.u hg) (by omega)) ?_
    show mjGo _ _ 56 ([some (.ref 0), some (.ref (27 + 2 * e)), some (.int (nI p)), some (.ref 1000001), some (.int (nI p2)), some (.int 1), some (.int 1), some (.int 49), some (.int (nI z1))], [.int (nI (szP g 49 p2))], mjH (mjU I 22 0 (nI (numD g z1 p1 0))) X) _
    refine mjGo.run 0 (pc' := 56) (F' := ([some (.ref 0), some (.ref (27 + 2 * e)), some (.int (nI p)), some (.ref 1000001), some (.int (nI p2)), some (.int 1), some (.int 1), some (.int 49), some (.int (nI z1))], [.int (nI (szP g 49 p2))], mjH (mjU I 22 0 (nI (numD g z1 p1 0))) X)) (fun _ => rfl) ?_
    obtain ⟨z2, hz2⟩ : ∃ t, t = szP g 49 p2 := ⟨_, rfl⟩
    have b2 : z2 ≤ 3 := by rw [hz2]; exact szP_3
    rw [show (nI (szP g 49 p2)) = nI z2 from congrArg nI hz2.symm]
    refine mjGo.run 3 (pc' := (bif decide ((nI z2) ≠ 0) then 68 else 63)) (F' := ([some (.ref 0), some (.ref (27 + 2 * e)), some (.int (nI p)), some (.ref 1000001), some (.int (nI p2)), some (.int 1), some (.int 1), some (.int 49), some (.int (nI z2))], [], mjH (mjU I 22 0 (nI (numD g z1 p1 0))) X)) (fun _ => rfl) ?_
    refine mjGo.br (fun q2 => ?_) (fun q2 => ?_)
    · show mjGo _ _ 68 _ _
      refine mjGo.run 18 (pc' := 115) (F' := ([some (.ref 0), some (.ref (27 + 2 * e)), some (.int (nI p)), some (.ref 1000001), some (.int (nI p2)), some (.int 1), some (.int 1), some (.int 49), some (.int (nI z2))], [.int (nI z2), .int (nI p2), .ref (27 + 2 * e), .int 1, .ref 22], mjH (mjU I 22 0 (nI (numD g z1 p1 0))) X)) (fun _ => rfl) ?_
      refine mjGo.call (n := 3) (j := 84) (nx := 118) (o := some (.int (nI (numD g z2 p2 0)))) (h' := mjH (mjU I 22 0 (nI (numD g z1 p1 0))) X) (fun _ => rfl) (c_xNum (d + 1) (X := X) he (gOf.u hg) (by omega) (fun i hi => nDg_dg (m := 1) (by rw [hz2] at hi; exact hi))) ?_
      show mjGo _ _ 118 ([some (.ref 0), some (.ref (27 + 2 * e)), some (.int (nI p)), some (.ref 1000001), some (.int (nI p2)), some (.int 1), some (.int 1), some (.int 49), some (.int (nI z2))], [.int (nI (numD g z2 p2 0)), .int 1, .ref 22], mjH (mjU I 22 0 (nI (numD g z1 p1 0))) X) _
      refine mjGo.run 2 (pc' := 122) (F' := ([some (.ref 0), some (.ref (27 + 2 * e)), some (.int (nI p)), some (.ref 1000001), some (.int (nI p2)), some (.int (1 + 1)), some (.int 1), some (.int 49), some (.int (nI z2))], [], mjH (mjU (mjU I 22 0 (nI (numD g z1 p1 0))) 22 1 (nI (numD g z2 p2 0))) X)) (fun _ => rfl) ?_
      refine mjGo.run 0 (pc' := 122) (F' := ([some (.ref 0), some (.ref (27 + 2 * e)), some (.int (nI p)), some (.ref 1000001), some (.int (nI p2)), some (.int (1 + 1)), some (.int 1), some (.int 49), some (.int (nI z2))], [], mjH (mjU (mjU I 22 0 (nI (numD g z1 p1 0))) 22 1 (nI (numD g z2 p2 0))) X)) (fun _ => rfl) ?_
      rw [show (1 + 1 : Int32) = 2 from by decide]
      refine mjGo.run 3 (pc' := 127) (F' := ([some (.ref 0), some (.ref (27 + 2 * e)), some (.int (nI p)), some (.ref 1000001), some (.int (nI p2)), some (.int 2), some (.int 1), some (.int 49), some (.int (nI z2))], [.int ((nI p2) + (nI z2))], mjH (mjU (mjU I 22 0 (nI (numD g z1 p1 0))) 22 1 (nI (numD g z2 p2 0))) X)) (fun _ => rfl) ?_
      refine mjGo.run 0 (pc' := 127) (F' := ([some (.ref 0), some (.ref (27 + 2 * e)), some (.int (nI p)), some (.ref 1000001), some (.int (nI p2)), some (.int 2), some (.int 1), some (.int 49), some (.int (nI z2))], [.int ((nI p2) + (nI z2))], mjH (mjU (mjU I 22 0 (nI (numD g z1 p1 0))) 22 1 (nI (numD g z2 p2 0))) X)) (fun _ => rfl) ?_
      obtain ⟨p3, hp3⟩ : ∃ t, t = p2 + z2 := ⟨_, rfl⟩
      rw [show ((nI p2) + (nI z2)) = nI p3 from (nI_add _ _).trans (congrArg nI hp3.symm)]
      refine mjGo.run 2 (pc' := 132) (F' := ([some (.ref 0), some (.ref (27 + 2 * e)), some (.int (nI p)), some (.ref 1000001), some (.int (nI p3)), some (.int 2), some (.int (1 + 1)), some (.int 49), some (.int (nI z2))], [], mjH (mjU (mjU I 22 0 (nI (numD g z1 p1 0))) 22 1 (nI (numD g z2 p2 0))) X)) (fun _ => rfl) ?_
      refine mjGo.run 0 (pc' := 132) (F' := ([some (.ref 0), some (.ref (27 + 2 * e)), some (.int (nI p)), some (.ref 1000001), some (.int (nI p3)), some (.int 2), some (.int (1 + 1)), some (.int 49), some (.int (nI z2))], [], mjH (mjU (mjU I 22 0 (nI (numD g z1 p1 0))) 22 1 (nI (numD g z2 p2 0))) X)) (fun _ => rfl) ?_
      rw [show (1 + 1 : Int32) = 2 from by decide]
      refine mjGo.run 1 (pc' := 31) (F' := ([some (.ref 0), some (.ref (27 + 2 * e)), some (.int (nI p)), some (.ref 1000001), some (.int (nI p3)), some (.int 2), some (.int 2), some (.int 49), some (.int (nI z2))], [], mjH (mjU (mjU I 22 0 (nI (numD g z1 p1 0))) 22 1 (nI (numD g z2 p2 0))) X)) (fun _ => rfl) ?_
      refine mjGo.run 2 (pc' := 34) (F' := ([some (.ref 0), some (.ref (27 + 2 * e)), some (.int (nI p)), some (.ref 1000001), some (.int (nI p3)), some (.int 2), some (.int 2), some (.int 49), some (.int (nI z2))], [.ref 1000001, .int 2], mjH (mjU (mjU I 22 0 (nI (numD g z1 p1 0))) 22 1 (nI (numD g z2 p2 0))) X)) (fun _ => rfl) ?_
      refine mjGo.call (n := 1) (j := 3) (nx := 37) (o := some (.int 7)) (h' := mjH (mjU (mjU I 22 0 (nI (numD g z1 p1 0))) 22 1 (nI (numD g z2 p2 0))) X) (fun _ => rfl) (t_ln1 d _) ?_
      show mjGo _ _ 37 ([some (.ref 0), some (.ref (27 + 2 * e)), some (.int (nI p)), some (.ref 1000001), some (.int (nI p3)), some (.int 2), some (.int 2), some (.int 49), some (.int (nI z2))], [.int 7, .int 2], mjH (mjU (mjU I 22 0 (nI (numD g z1 p1 0))) 22 1 (nI (numD g z2 p2 0))) X) _
      refine mjGo.run 3 (pc' := 43) (F' := ([some (.ref 0), some (.ref (27 + 2 * e)), some (.int (nI p)), some (.ref 1000001), some (.int (nI p3)), some (.int 2), some (.int 2), some (.int 49), some (.int (nI z2))], [.int 2, .ref 1000001], mjH (mjU (mjU I 22 0 (nI (numD g z1 p1 0))) 22 1 (nI (numD g z2 p2 0))) X)) (fun _ => rfl) ?_
      refine mjGo.call (n := 2) (j := 8) (nx := 46) (o := some (.int 43)) (h' := mjH (mjU (mjU I 22 0 (nI (numD g z1 p1 0))) 22 1 (nI (numD g z2 p2 0))) X) (fun _ => rfl) (t_ch1_2 d _) ?_
      show mjGo _ _ 46 ([some (.ref 0), some (.ref (27 + 2 * e)), some (.int (nI p)), some (.ref 1000001), some (.int (nI p3)), some (.int 2), some (.int 2), some (.int 49), some (.int (nI z2))], [.int 43], mjH (mjU (mjU I 22 0 (nI (numD g z1 p1 0))) 22 1 (nI (numD g z2 p2 0))) X) _
      refine mjGo.run 4 (pc' := 53) (F' := ([some (.ref 0), some (.ref (27 + 2 * e)), some (.int (nI p)), some (.ref 1000001), some (.int (nI p3)), some (.int 2), some (.int 2), some (.int 43), some (.int (nI z2))], [.int 43, .int (nI p3), .ref (27 + 2 * e)], mjH (mjU (mjU I 22 0 (nI (numD g z1 p1 0))) 22 1 (nI (numD g z2 p2 0))) X)) (fun _ => rfl) ?_
      refine mjGo.call (n := 3) (j := 83) (nx := 56) (o := some (.int (nI (szP g 43 p3)))) (h' := mjH (mjU (mjU I 22 0 (nI (numD g z1 p1 0))) 22 1 (nI (numD g z2 p2 0))) X) (fun _ => rfl) (c_xSz43 d (X := X) he (gOf.u (gOf.u hg)) (by omega)) ?_
      show mjGo _ _ 56 ([some (.ref 0), some (.ref (27 + 2 * e)), some (.int (nI p)), some (.ref 1000001), some (.int (nI p3)), some (.int 2), some (.int 2), some (.int 43), some (.int (nI z2))], [.int (nI (szP g 43 p3))], mjH (mjU (mjU I 22 0 (nI (numD g z1 p1 0))) 22 1 (nI (numD g z2 p2 0))) X) _
      refine mjGo.run 0 (pc' := 56) (F' := ([some (.ref 0), some (.ref (27 + 2 * e)), some (.int (nI p)), some (.ref 1000001), some (.int (nI p3)), some (.int 2), some (.int 2), some (.int 43), some (.int (nI z2))], [.int (nI (szP g 43 p3))], mjH (mjU (mjU I 22 0 (nI (numD g z1 p1 0))) 22 1 (nI (numD g z2 p2 0))) X)) (fun _ => rfl) ?_
      obtain ⟨z3, hz3⟩ : ∃ t, t = szP g 43 p3 := ⟨_, rfl⟩
      have b3 : z3 ≤ 3 := by rw [hz3]; exact szP_3
      rw [show (nI (szP g 43 p3)) = nI z3 from congrArg nI hz3.symm]
      refine mjGo.run 3 (pc' := (bif decide ((nI z3) ≠ 0) then 68 else 63)) (F' := ([some (.ref 0), some (.ref (27 + 2 * e)), some (.int (nI p)), some (.ref 1000001), some (.int (nI p3)), some (.int 2), some (.int 2), some (.int 43), some (.int (nI z3))], [], mjH (mjU (mjU I 22 0 (nI (numD g z1 p1 0))) 22 1 (nI (numD g z2 p2 0))) X)) (fun _ => rfl) ?_
      refine mjGo.br (fun q3 => ?_) (fun q3 => ?_)
      · show mjGo _ _ 68 _ _
        refine mjGo.run 17 (pc' := 104) (F' := ([some (.ref 0), some (.ref (27 + 2 * e)), some (.int (nI p)), some (.ref 1000001), some (.int (nI p3)), some (.int 2), some (.int 2), some (.int 43), some (.int (nI z3))], [.int (nI p3), .ref (27 + 2 * e), .int 2, .ref 22], mjH (mjU (mjU I 22 0 (nI (numD g z1 p1 0))) 22 1 (nI (numD g z2 p2 0))) X)) (fun _ => rfl) ?_
        refine mjGo.call (n := 2) (j := 82) (nx := 107) (o := some (.int (sgV g p3))) (h' := mjH (mjU (mjU I 22 0 (nI (numD g z1 p1 0))) 22 1 (nI (numD g z2 p2 0))) X) (fun _ => rfl) (c_xSgn (d + 1) (X := X) he (gOf.u (gOf.u hg)) (by omega)) ?_
        show mjGo _ _ 107 ([some (.ref 0), some (.ref (27 + 2 * e)), some (.int (nI p)), some (.ref 1000001), some (.int (nI p3)), some (.int 2), some (.int 2), some (.int 43), some (.int (nI z3))], [.int (sgV g p3), .int 2, .ref 22], mjH (mjU (mjU I 22 0 (nI (numD g z1 p1 0))) 22 1 (nI (numD g z2 p2 0))) X) _
        refine mjGo.run 3 (pc' := 122) (F' := ([some (.ref 0), some (.ref (27 + 2 * e)), some (.int (nI p)), some (.ref 1000001), some (.int (nI p3)), some (.int (2 + 1)), some (.int 2), some (.int 43), some (.int (nI z3))], [], mjH (mjU (mjU (mjU I 22 0 (nI (numD g z1 p1 0))) 22 1 (nI (numD g z2 p2 0))) 22 2 (sgV g p3)) X)) (fun _ => rfl) ?_
        refine mjGo.run 0 (pc' := 122) (F' := ([some (.ref 0), some (.ref (27 + 2 * e)), some (.int (nI p)), some (.ref 1000001), some (.int (nI p3)), some (.int (2 + 1)), some (.int 2), some (.int 43), some (.int (nI z3))], [], mjH (mjU (mjU (mjU I 22 0 (nI (numD g z1 p1 0))) 22 1 (nI (numD g z2 p2 0))) 22 2 (sgV g p3)) X)) (fun _ => rfl) ?_
        rw [show (2 + 1 : Int32) = 3 from by decide]
        refine mjGo.run 3 (pc' := 127) (F' := ([some (.ref 0), some (.ref (27 + 2 * e)), some (.int (nI p)), some (.ref 1000001), some (.int (nI p3)), some (.int 3), some (.int 2), some (.int 43), some (.int (nI z3))], [.int ((nI p3) + (nI z3))], mjH (mjU (mjU (mjU I 22 0 (nI (numD g z1 p1 0))) 22 1 (nI (numD g z2 p2 0))) 22 2 (sgV g p3)) X)) (fun _ => rfl) ?_
        refine mjGo.run 0 (pc' := 127) (F' := ([some (.ref 0), some (.ref (27 + 2 * e)), some (.int (nI p)), some (.ref 1000001), some (.int (nI p3)), some (.int 3), some (.int 2), some (.int 43), some (.int (nI z3))], [.int ((nI p3) + (nI z3))], mjH (mjU (mjU (mjU I 22 0 (nI (numD g z1 p1 0))) 22 1 (nI (numD g z2 p2 0))) 22 2 (sgV g p3)) X)) (fun _ => rfl) ?_
        obtain ⟨p4, hp4⟩ : ∃ t, t = p3 + z3 := ⟨_, rfl⟩
        rw [show ((nI p3) + (nI z3)) = nI p4 from (nI_add _ _).trans (congrArg nI hp4.symm)]
        refine mjGo.run 2 (pc' := 132) (F' := ([some (.ref 0), some (.ref (27 + 2 * e)), some (.int (nI p)), some (.ref 1000001), some (.int (nI p4)), some (.int 3), some (.int (2 + 1)), some (.int 43), some (.int (nI z3))], [], mjH (mjU (mjU (mjU I 22 0 (nI (numD g z1 p1 0))) 22 1 (nI (numD g z2 p2 0))) 22 2 (sgV g p3)) X)) (fun _ => rfl) ?_
        refine mjGo.run 0 (pc' := 132) (F' := ([some (.ref 0), some (.ref (27 + 2 * e)), some (.int (nI p)), some (.ref 1000001), some (.int (nI p4)), some (.int 3), some (.int (2 + 1)), some (.int 43), some (.int (nI z3))], [], mjH (mjU (mjU (mjU I 22 0 (nI (numD g z1 p1 0))) 22 1 (nI (numD g z2 p2 0))) 22 2 (sgV g p3)) X)) (fun _ => rfl) ?_
        rw [show (2 + 1 : Int32) = 3 from by decide]
        refine mjGo.run 1 (pc' := 31) (F' := ([some (.ref 0), some (.ref (27 + 2 * e)), some (.int (nI p)), some (.ref 1000001), some (.int (nI p4)), some (.int 3), some (.int 3), some (.int 43), some (.int (nI z3))], [], mjH (mjU (mjU (mjU I 22 0 (nI (numD g z1 p1 0))) 22 1 (nI (numD g z2 p2 0))) 22 2 (sgV g p3)) X)) (fun _ => rfl) ?_
        refine mjGo.run 2 (pc' := 34) (F' := ([some (.ref 0), some (.ref (27 + 2 * e)), some (.int (nI p)), some (.ref 1000001), some (.int (nI p4)), some (.int 3), some (.int 3), some (.int 43), some (.int (nI z3))], [.ref 1000001, .int 3], mjH (mjU (mjU (mjU I 22 0 (nI (numD g z1 p1 0))) 22 1 (nI (numD g z2 p2 0))) 22 2 (sgV g p3)) X)) (fun _ => rfl) ?_
        refine mjGo.call (n := 1) (j := 3) (nx := 37) (o := some (.int 7)) (h' := mjH (mjU (mjU (mjU I 22 0 (nI (numD g z1 p1 0))) 22 1 (nI (numD g z2 p2 0))) 22 2 (sgV g p3)) X) (fun _ => rfl) (t_ln1 d _) ?_
        show mjGo _ _ 37 ([some (.ref 0), some (.ref (27 + 2 * e)), some (.int (nI p)), some (.ref 1000001), some (.int (nI p4)), some (.int 3), some (.int 3), some (.int 43), some (.int (nI z3))], [.int 7, .int 3], mjH (mjU (mjU (mjU I 22 0 (nI (numD g z1 p1 0))) 22 1 (nI (numD g z2 p2 0))) 22 2 (sgV g p3)) X) _
        refine mjGo.run 3 (pc' := 43) (F' := ([some (.ref 0), some (.ref (27 + 2 * e)), some (.int (nI p)), some (.ref 1000001), some (.int (nI p4)), some (.int 3), some (.int 3), some (.int 43), some (.int (nI z3))], [.int 3, .ref 1000001], mjH (mjU (mjU (mjU I 22 0 (nI (numD g z1 p1 0))) 22 1 (nI (numD g z2 p2 0))) 22 2 (sgV g p3)) X)) (fun _ => rfl) ?_
        refine mjGo.call (n := 2) (j := 8) (nx := 46) (o := some (.int 50)) (h' := mjH (mjU (mjU (mjU I 22 0 (nI (numD g z1 p1 0))) 22 1 (nI (numD g z2 p2 0))) 22 2 (sgV g p3)) X) (fun _ => rfl) (t_ch1_3 d _) ?_
        show mjGo _ _ 46 ([some (.ref 0), some (.ref (27 + 2 * e)), some (.int (nI p)), some (.ref 1000001), some (.int (nI p4)), some (.int 3), some (.int 3), some (.int 43), some (.int (nI z3))], [.int 50], mjH (mjU (mjU (mjU I 22 0 (nI (numD g z1 p1 0))) 22 1 (nI (numD g z2 p2 0))) 22 2 (sgV g p3)) X) _
        refine mjGo.run 4 (pc' := 53) (F' := ([some (.ref 0), some (.ref (27 + 2 * e)), some (.int (nI p)), some (.ref 1000001), some (.int (nI p4)), some (.int 3), some (.int 3), some (.int 50), some (.int (nI z3))], [.int 50, .int (nI p4), .ref (27 + 2 * e)], mjH (mjU (mjU (mjU I 22 0 (nI (numD g z1 p1 0))) 22 1 (nI (numD g z2 p2 0))) 22 2 (sgV g p3)) X)) (fun _ => rfl) ?_
        refine mjGo.call (n := 3) (j := 83) (nx := 56) (o := some (.int (nI (szP g 50 p4)))) (h' := mjH (mjU (mjU (mjU I 22 0 (nI (numD g z1 p1 0))) 22 1 (nI (numD g z2 p2 0))) 22 2 (sgV g p3)) X) (fun _ => rfl) (c_xSz50 d (X := X) he (gOf.u (gOf.u (gOf.u hg))) (by omega)) ?_
        show mjGo _ _ 56 ([some (.ref 0), some (.ref (27 + 2 * e)), some (.int (nI p)), some (.ref 1000001), some (.int (nI p4)), some (.int 3), some (.int 3), some (.int 50), some (.int (nI z3))], [.int (nI (szP g 50 p4))], mjH (mjU (mjU (mjU I 22 0 (nI (numD g z1 p1 0))) 22 1 (nI (numD g z2 p2 0))) 22 2 (sgV g p3)) X) _
        refine mjGo.run 0 (pc' := 56) (F' := ([some (.ref 0), some (.ref (27 + 2 * e)), some (.int (nI p)), some (.ref 1000001), some (.int (nI p4)), some (.int 3), some (.int 3), some (.int 50), some (.int (nI z3))], [.int (nI (szP g 50 p4))], mjH (mjU (mjU (mjU I 22 0 (nI (numD g z1 p1 0))) 22 1 (nI (numD g z2 p2 0))) 22 2 (sgV g p3)) X)) (fun _ => rfl) ?_
        obtain ⟨z4, hz4⟩ : ∃ t, t = szP g 50 p4 := ⟨_, rfl⟩
        have b4 : z4 ≤ 3 := by rw [hz4]; exact szP_3
        rw [show (nI (szP g 50 p4)) = nI z4 from congrArg nI hz4.symm]
        refine mjGo.run 3 (pc' := (bif decide ((nI z4) ≠ 0) then 68 else 63)) (F' := ([some (.ref 0), some (.ref (27 + 2 * e)), some (.int (nI p)), some (.ref 1000001), some (.int (nI p4)), some (.int 3), some (.int 3), some (.int 50), some (.int (nI z4))], [], mjH (mjU (mjU (mjU I 22 0 (nI (numD g z1 p1 0))) 22 1 (nI (numD g z2 p2 0))) 22 2 (sgV g p3)) X)) (fun _ => rfl) ?_
        refine mjGo.br (fun q4 => ?_) (fun q4 => ?_)
        · show mjGo _ _ 68 _ _
          refine mjGo.run 18 (pc' := 115) (F' := ([some (.ref 0), some (.ref (27 + 2 * e)), some (.int (nI p)), some (.ref 1000001), some (.int (nI p4)), some (.int 3), some (.int 3), some (.int 50), some (.int (nI z4))], [.int (nI z4), .int (nI p4), .ref (27 + 2 * e), .int 3, .ref 22], mjH (mjU (mjU (mjU I 22 0 (nI (numD g z1 p1 0))) 22 1 (nI (numD g z2 p2 0))) 22 2 (sgV g p3)) X)) (fun _ => rfl) ?_
          refine mjGo.call (n := 3) (j := 84) (nx := 118) (o := some (.int (nI (numD g z4 p4 0)))) (h' := mjH (mjU (mjU (mjU I 22 0 (nI (numD g z1 p1 0))) 22 1 (nI (numD g z2 p2 0))) 22 2 (sgV g p3)) X) (fun _ => rfl) (c_xNum (d + 1) (X := X) he (gOf.u (gOf.u (gOf.u hg))) (by omega) (fun i hi => nDg_dg (m := 2) (by rw [hz4] at hi; exact hi))) ?_
          show mjGo _ _ 118 ([some (.ref 0), some (.ref (27 + 2 * e)), some (.int (nI p)), some (.ref 1000001), some (.int (nI p4)), some (.int 3), some (.int 3), some (.int 50), some (.int (nI z4))], [.int (nI (numD g z4 p4 0)), .int 3, .ref 22], mjH (mjU (mjU (mjU I 22 0 (nI (numD g z1 p1 0))) 22 1 (nI (numD g z2 p2 0))) 22 2 (sgV g p3)) X) _
          refine mjGo.run 2 (pc' := 122) (F' := ([some (.ref 0), some (.ref (27 + 2 * e)), some (.int (nI p)), some (.ref 1000001), some (.int (nI p4)), some (.int (3 + 1)), some (.int 3), some (.int 50), some (.int (nI z4))], [], mjH (mjU (mjU (mjU (mjU I 22 0 (nI (numD g z1 p1 0))) 22 1 (nI (numD g z2 p2 0))) 22 2 (sgV g p3)) 22 3 (nI (numD g z4 p4 0))) X)) (fun _ => rfl) ?_
          refine mjGo.run 0 (pc' := 122) (F' := ([some (.ref 0), some (.ref (27 + 2 * e)), some (.int (nI p)), some (.ref 1000001), some (.int (nI p4)), some (.int (3 + 1)), some (.int 3), some (.int 50), some (.int (nI z4))], [], mjH (mjU (mjU (mjU (mjU I 22 0 (nI (numD g z1 p1 0))) 22 1 (nI (numD g z2 p2 0))) 22 2 (sgV g p3)) 22 3 (nI (numD g z4 p4 0))) X)) (fun _ => rfl) ?_
          rw [show (3 + 1 : Int32) = 4 from by decide]
          refine mjGo.run 3 (pc' := 127) (F' := ([some (.ref 0), some (.ref (27 + 2 * e)), some (.int (nI p)), some (.ref 1000001), some (.int (nI p4)), some (.int 4), some (.int 3), some (.int 50), some (.int (nI z4))], [.int ((nI p4) + (nI z4))], mjH (mjU (mjU (mjU (mjU I 22 0 (nI (numD g z1 p1 0))) 22 1 (nI (numD g z2 p2 0))) 22 2 (sgV g p3)) 22 3 (nI (numD g z4 p4 0))) X)) (fun _ => rfl) ?_
          refine mjGo.run 0 (pc' := 127) (F' := ([some (.ref 0), some (.ref (27 + 2 * e)), some (.int (nI p)), some (.ref 1000001), some (.int (nI p4)), some (.int 4), some (.int 3), some (.int 50), some (.int (nI z4))], [.int ((nI p4) + (nI z4))], mjH (mjU (mjU (mjU (mjU I 22 0 (nI (numD g z1 p1 0))) 22 1 (nI (numD g z2 p2 0))) 22 2 (sgV g p3)) 22 3 (nI (numD g z4 p4 0))) X)) (fun _ => rfl) ?_
          obtain ⟨p5, hp5⟩ : ∃ t, t = p4 + z4 := ⟨_, rfl⟩
          rw [show ((nI p4) + (nI z4)) = nI p5 from (nI_add _ _).trans (congrArg nI hp5.symm)]
          refine mjGo.run 2 (pc' := 132) (F' := ([some (.ref 0), some (.ref (27 + 2 * e)), some (.int (nI p)), some (.ref 1000001), some (.int (nI p5)), some (.int 4), some (.int (3 + 1)), some (.int 50), some (.int (nI z4))], [], mjH (mjU (mjU (mjU (mjU I 22 0 (nI (numD g z1 p1 0))) 22 1 (nI (numD g z2 p2 0))) 22 2 (sgV g p3)) 22 3 (nI (numD g z4 p4 0))) X)) (fun _ => rfl) ?_
          refine mjGo.run 0 (pc' := 132) (F' := ([some (.ref 0), some (.ref (27 + 2 * e)), some (.int (nI p)), some (.ref 1000001), some (.int (nI p5)), some (.int 4), some (.int (3 + 1)), some (.int 50), some (.int (nI z4))], [], mjH (mjU (mjU (mjU (mjU I 22 0 (nI (numD g z1 p1 0))) 22 1 (nI (numD g z2 p2 0))) 22 2 (sgV g p3)) 22 3 (nI (numD g z4 p4 0))) X)) (fun _ => rfl) ?_
          rw [show (3 + 1 : Int32) = 4 from by decide]
          refine mjGo.run 1 (pc' := 31) (F' := ([some (.ref 0), some (.ref (27 + 2 * e)), some (.int (nI p)), some (.ref 1000001), some (.int (nI p5)), some (.int 4), some (.int 4), some (.int 50), some (.int (nI z4))], [], mjH (mjU (mjU (mjU (mjU I 22 0 (nI (numD g z1 p1 0))) 22 1 (nI (numD g z2 p2 0))) 22 2 (sgV g p3)) 22 3 (nI (numD g z4 p4 0))) X)) (fun _ => rfl) ?_
          refine mjGo.run 0 (pc' := 31) (F' := ([some (.ref 0), some (.ref (27 + 2 * e)), some (.int (nI p)), some (.ref 1000001), some (.int (nI p5)), some (.int 4), some (.int 4), some (.int 50), some (.int (nI z4))], [], mjH (mjU (mjU (mjU (mjU I 22 0 (nI (numD g z1 p1 0))) 22 1 (nI (numD g z2 p2 0))) 22 2 (sgV g p3)) 22 3 (nI (numD g z4 p4 0))) X)) (fun _ => rfl) ?_
          have e9 : rdE g [49, 49, 43, 50, 32, 51, 59] p1 = rdE g [32, 51, 59] p5 := by rw [rdE_t (by rw [← hz1]; exact q1), ← hz1, ← hp2, rdE_t (by rw [← hz2]; exact q2), ← hz2, ← hp3, rdE_t (by rw [← hz3]; exact q3), ← hz3, ← hp4, rdE_t (by rw [← hz4]; exact q4), ← hz4, ← hp5]
          have ev : vls g [49, 49, 43, 50, 32, 51, 59] p1 = [nI (numD g z1 p1 0), nI (numD g z2 p2 0), sgV g p3, nI (numD g z4 p4 0), vlP g 51 (p5 + szP g 32 p5)] := by rw [vls, if_neg (by decide), ← hz1, ← hp2, vls, if_neg (by decide), ← hz2, ← hp3, vls, if_neg (by decide), ← hz3, ← hp4, vls, if_neg (by decide), ← hz4, ← hp5, vls, if_pos (by decide), vls, if_neg (by decide), vls, if_pos (by decide), vls, vlP_43, vlP_n (c := 49) (p := p1) (by decide), ← hz1, vlP_n (c := 49) (p := p2) (by decide), ← hz2, vlP_n (c := 50) (p := p4) (by decide), ← hz4]
          obtain ⟨n, x, hx, o9, ho, J9, hJ, hk, hk4, hv, ht⟩ := x_rdT d (p := p) (o7 := some (.int 50)) (o8 := some (.int (nI z4))) he (gOf.u (gOf.u (gOf.u (gOf.u hg)))) (show p5 < 950 by omega)
          refine ⟨n, x, hx, o9, ho, J9, hJ, fun k hk9 => (hk k hk9).trans (by rw [mjU_r hk9, mjU_r hk9, mjU_r hk9, mjU_r hk9]), by rw [e9]; exact hv, fun w i hi => ?_⟩
          rw [e9] at w
          rw [ev]
          match i, hi with
          | 0, _ => exact (hk4 0 (by omega)).trans rfl
          | 1, _ => exact (hk4 1 (by omega)).trans rfl
          | 2, _ => exact (hk4 2 (by omega)).trans rfl
          | 3, _ => exact (hk4 3 (by omega)).trans rfl
          | 4, _ => exact ht w
        · show mjGo _ _ 63 _ _
          have e9 : rdE g [49, 49, 43, 50, 32, 51, 59] p1 = (p4, false) := by rw [rdE_t (by rw [← hz1]; exact q1), ← hz1, ← hp2, rdE_t (by rw [← hz2]; exact q2), ← hz2, ← hp3, rdE_t (by rw [← hz3]; exact q3), ← hz3, ← hp4, rdE_f (by rw [← hz4]; exact q4)]
          refine mjGo.ret 4 (fun _ => rfl) ⟨_, rfl, (mjU (mjU (mjU I 22 0 (nI (numD g z1 p1 0))) 22 1 (nI (numD g z2 p2 0))) 22 2 (sgV g p3)), rfl, fun k hk => by rw [mjU_r hk, mjU_r hk, mjU_r hk], ?_, fun w => ?_⟩
          · rw [e9]; rfl
          · rw [e9] at w; cases w
      · show mjGo _ _ 63 _ _
        have e9 : rdE g [49, 49, 43, 50, 32, 51, 59] p1 = (p3, false) := by rw [rdE_t (by rw [← hz1]; exact q1), ← hz1, ← hp2, rdE_t (by rw [← hz2]; exact q2), ← hz2, ← hp3, rdE_f (by rw [← hz3]; exact q3)]
        refine mjGo.ret 4 (fun _ => rfl) ⟨_, rfl, (mjU (mjU I 22 0 (nI (numD g z1 p1 0))) 22 1 (nI (numD g z2 p2 0))), rfl, fun k hk => by rw [mjU_r hk, mjU_r hk], ?_, fun w => ?_⟩
        · rw [e9]; rfl
        · rw [e9] at w; cases w
    · show mjGo _ _ 63 _ _
      have e9 : rdE g [49, 49, 43, 50, 32, 51, 59] p1 = (p2, false) := by rw [rdE_t (by rw [← hz1]; exact q1), ← hz1, ← hp2, rdE_f (by rw [← hz2]; exact q2)]
      refine mjGo.ret 4 (fun _ => rfl) ⟨_, rfl, (mjU I 22 0 (nI (numD g z1 p1 0))), rfl, fun k hk => by rw [mjU_r hk], ?_, fun w => ?_⟩
      · rw [e9]; rfl
      · rw [e9] at w; cases w
  · show mjGo _ _ 63 _ _
    have e9 : rdE g [49, 49, 43, 50, 32, 51, 59] p1 = (p1, false) := by rw [rdE_f (by rw [← hz1]; exact q1)]
    refine mjGo.ret 4 (fun _ => rfl) ⟨_, rfl, I, rfl, fun k hk => rfl, ?_, fun w => ?_⟩
    · rw [e9]; rfl
    · rw [e9] at w; cases w
theorem c_xRd108 (d : Nat) {e p : Nat} {g : Nat → Int32} {I : Nat → Nat → Int32} {X : MX} (he : e < 8) (hg : gOf I e g) (hp : p < 900) (hl : g p = 108) : mjEvP (d + 4) nyX11_readStatement [.ref 0, .ref (27 + 2 * e), .int (nI p)] (mjH I X) (fun o h2 => ∃ J, h2 = mjH J X ∧ (∀ k, k ≠ 22 → J k = I k) ∧ o = some (.int (rdA (rdE g [49, 59] (p + 1)))) ∧ ((rdE g [49, 59] (p + 1)).2 = true → ∀ i, i < 1 → J 22 i = (vls g [49, 59] (p + 1)).getD i 0)) := by
  refine mjEvP.of ?_
  show mjGo (d + 4) nyX11_readStatement 0 ([some (.ref 0), some (.ref (27 + 2 * e)), some (.int (nI p)), none, none, none, none, none, none], [], mjH I X) _
  obtain ⟨p1, hp1⟩ : ∃ t, t = p + 1 := ⟨_, rfl⟩
  rw [show rdE g [49, 59] (p + 1) = rdE g [49, 59] p1 by rw [hp1], show vls g [49, 59] (p + 1) = vls g [49, 59] p1 by rw [hp1]]
  refine mjGo.run 2 (pc' := 2) (F' := ([some (.ref 0), some (.ref (27 + 2 * e)), some (.int (nI p)), none, none, none, none, none, none], [.int (nI p), .ref (27 + 2 * e)], mjH I X)) (fun _ => rfl) ?_
  refine mjGo.callL (o := some (.int (g p))) (h' := mjH I X) (nx := 5) rfl rfl rfl ((row_N he).1) ⟨_, row_lk he, (by have q9 := c_xVal (d + 2) (I := I) (X := X) e (nI p) he; rw [hg p (by omega)] at q9; exact q9)⟩ ?_
  show mjGo _ _ 5 ([some (.ref 0), some (.ref (27 + 2 * e)), some (.int (nI p)), none, none, none, none, none, none], [.int (g p)], mjH I X) _
  refine mjGo.run 0 (pc' := 5) (F' := ([some (.ref 0), some (.ref (27 + 2 * e)), some (.int (nI p)), none, none, none, none, none, none], [.int (g p)], mjH I X)) (fun _ => rfl) ?_
  rw [show (g p) = 108 from hl]
  refine mjGo.call (n := 1) (j := 79) (nx := 8) (o := some (.ref 1000002)) (h' := mjH I X) (fun _ => rfl) (t_fo2 _ _) ?_
  show mjGo _ _ 8 ([some (.ref 0), some (.ref (27 + 2 * e)), some (.int (nI p)), none, none, none, none, none, none], [.ref 1000002], mjH I X) _
  refine mjGo.run 2 (pc' := 10) (F' := ([some (.ref 0), some (.ref (27 + 2 * e)), some (.int (nI p)), some (.ref 1000002), none, none, none, none, none], [.ref 1000002], mjH I X)) (fun _ => rfl) ?_
  refine mjGo.call (n := 1) (j := 1) (nx := 13) (o := some (.int 0)) (h' := mjH I X) (fun _ => rfl) (t_em2 _ _) ?_
  show mjGo _ _ 13 ([some (.ref 0), some (.ref (27 + 2 * e)), some (.int (nI p)), some (.ref 1000002), none, none, none, none, none], [.int 0], mjH I X) _
  refine mjGo.run 4 (pc' := 23) (F' := ([some (.ref 0), some (.ref (27 + 2 * e)), some (.int (nI p)), some (.ref 1000002), none, none, none, none, none], [.int ((nI p) + 1)], mjH I X)) (fun _ => rfl) ?_
  refine mjGo.run 0 (pc' := 23) (F' := ([some (.ref 0), some (.ref (27 + 2 * e)), some (.int (nI p)), some (.ref 1000002), none, none, none, none, none], [.int ((nI p) + 1)], mjH I X)) (fun _ => rfl) ?_
  rw [show ((nI p) + 1) = nI p1 from (nI_1 p).trans (congrArg nI hp1.symm)]
  refine mjGo.run 7 (pc' := 34) (F' := ([some (.ref 0), some (.ref (27 + 2 * e)), some (.int (nI p)), some (.ref 1000002), some (.int (nI p1)), some (.int 0), some (.int 0), none, none], [.ref 1000002, .int 0], mjH I X)) (fun _ => rfl) ?_
  refine mjGo.call (n := 1) (j := 3) (nx := 37) (o := some (.int 2)) (h' := mjH I X) (fun _ => rfl) (t_ln2 d _) ?_
  show mjGo _ _ 37 ([some (.ref 0), some (.ref (27 + 2 * e)), some (.int (nI p)), some (.ref 1000002), some (.int (nI p1)), some (.int 0), some (.int 0), none, none], [.int 2, .int 0], mjH I X) _
  refine mjGo.run 3 (pc' := 43) (F' := ([some (.ref 0), some (.ref (27 + 2 * e)), some (.int (nI p)), some (.ref 1000002), some (.int (nI p1)), some (.int 0), some (.int 0), none, none], [.int 0, .ref 1000002], mjH I X)) (fun _ => rfl) ?_
  refine mjGo.call (n := 2) (j := 8) (nx := 46) (o := some (.int 49)) (h' := mjH I X) (fun _ => rfl) (t_ch2_0 d _) ?_
  show mjGo _ _ 46 ([some (.ref 0), some (.ref (27 + 2 * e)), some (.int (nI p)), some (.ref 1000002), some (.int (nI p1)), some (.int 0), some (.int 0), none, none], [.int 49], mjH I X) _
  refine mjGo.run 4 (pc' := 53) (F' := ([some (.ref 0), some (.ref (27 + 2 * e)), some (.int (nI p)), some (.ref 1000002), some (.int (nI p1)), some (.int 0), some (.int 0), some (.int 49), none], [.int 49, .int (nI p1), .ref (27 + 2 * e)], mjH I X)) (fun _ => rfl) ?_
  refine mjGo.call (n := 3) (j := 83) (nx := 56) (o := some (.int (nI (szP g 49 p1)))) (h' := mjH I X) (fun _ => rfl) (c_xSz49 d (X := X) he hg (by omega)) ?_
  show mjGo _ _ 56 ([some (.ref 0), some (.ref (27 + 2 * e)), some (.int (nI p)), some (.ref 1000002), some (.int (nI p1)), some (.int 0), some (.int 0), some (.int 49), none], [.int (nI (szP g 49 p1))], mjH I X) _
  refine mjGo.run 0 (pc' := 56) (F' := ([some (.ref 0), some (.ref (27 + 2 * e)), some (.int (nI p)), some (.ref 1000002), some (.int (nI p1)), some (.int 0), some (.int 0), some (.int 49), none], [.int (nI (szP g 49 p1))], mjH I X)) (fun _ => rfl) ?_
  obtain ⟨z1, hz1⟩ : ∃ t, t = szP g 49 p1 := ⟨_, rfl⟩
  have b1 : z1 ≤ 3 := by rw [hz1]; exact szP_3
  rw [show (nI (szP g 49 p1)) = nI z1 from congrArg nI hz1.symm]
  refine mjGo.run 3 (pc' := (bif decide ((nI z1) ≠ 0) then 68 else 63)) (F' := ([some (.ref 0), some (.ref (27 + 2 * e)), some (.int (nI p)), some (.ref 1000002), some (.int (nI p1)), some (.int 0), some (.int 0), some (.int 49), some (.int (nI z1))], [], mjH I X)) (fun _ => rfl) ?_
  refine mjGo.br (fun q1 => ?_) (fun q1 => ?_)
  · show mjGo _ _ 68 _ _
    refine mjGo.run 18 (pc' := 115) (F' := ([some (.ref 0), some (.ref (27 + 2 * e)), some (.int (nI p)), some (.ref 1000002), some (.int (nI p1)), some (.int 0), some (.int 0), some (.int 49), some (.int (nI z1))], [.int (nI z1), .int (nI p1), .ref (27 + 2 * e), .int 0, .ref 22], mjH I X)) (fun _ => rfl) ?_
    refine mjGo.call (n := 3) (j := 84) (nx := 118) (o := some (.int (nI (numD g z1 p1 0)))) (h' := mjH I X) (fun _ => rfl) (c_xNum (d + 1) (X := X) he hg (by omega) (fun i hi => nDg_dg (m := 1) (by rw [hz1] at hi; exact hi))) ?_
    show mjGo _ _ 118 ([some (.ref 0), some (.ref (27 + 2 * e)), some (.int (nI p)), some (.ref 1000002), some (.int (nI p1)), some (.int 0), some (.int 0), some (.int 49), some (.int (nI z1))], [.int (nI (numD g z1 p1 0)), .int 0, .ref 22], mjH I X) _
    refine mjGo.run 2 (pc' := 122) (F' := ([some (.ref 0), some (.ref (27 + 2 * e)), some (.int (nI p)), some (.ref 1000002), some (.int (nI p1)), some (.int (0 + 1)), some (.int 0), some (.int 49), some (.int (nI z1))], [], mjH (mjU I 22 0 (nI (numD g z1 p1 0))) X)) (fun _ => rfl) ?_
    refine mjGo.run 0 (pc' := 122) (F' := ([some (.ref 0), some (.ref (27 + 2 * e)), some (.int (nI p)), some (.ref 1000002), some (.int (nI p1)), some (.int (0 + 1)), some (.int 0), some (.int 49), some (.int (nI z1))], [], mjH (mjU I 22 0 (nI (numD g z1 p1 0))) X)) (fun _ => rfl) ?_
    rw [show (0 + 1 : Int32) = 1 from by decide]
    refine mjGo.run 3 (pc' := 127) (F' := ([some (.ref 0), some (.ref (27 + 2 * e)), some (.int (nI p)), some (.ref 1000002), some (.int (nI p1)), some (.int 1), some (.int 0), some (.int 49), some (.int (nI z1))], [.int ((nI p1) + (nI z1))], mjH (mjU I 22 0 (nI (numD g z1 p1 0))) X)) (fun _ => rfl) ?_
    refine mjGo.run 0 (pc' := 127) (F' := ([some (.ref 0), some (.ref (27 + 2 * e)), some (.int (nI p)), some (.ref 1000002), some (.int (nI p1)), some (.int 1), some (.int 0), some (.int 49), some (.int (nI z1))], [.int ((nI p1) + (nI z1))], mjH (mjU I 22 0 (nI (numD g z1 p1 0))) X)) (fun _ => rfl) ?_
    obtain ⟨p2, hp2⟩ : ∃ t, t = p1 + z1 := ⟨_, rfl⟩
    rw [show ((nI p1) + (nI z1)) = nI p2 from (nI_add _ _).trans (congrArg nI hp2.symm)]
    refine mjGo.run 2 (pc' := 132) (F' := ([some (.ref 0), some (.ref (27 + 2 * e)), some (.int (nI p)), some (.ref 1000002), some (.int (nI p2)), some (.int 1), some (.int (0 + 1)), some (.int 49), some (.int (nI z1))], [], mjH (mjU I 22 0 (nI (numD g z1 p1 0))) X)) (fun _ => rfl) ?_
    refine mjGo.run 0 (pc' := 132) (F' := ([some (.ref 0), some (.ref (27 + 2 * e)), some (.int (nI p)), some (.ref 1000002), some (.int (nI p2)), some (.int 1), some (.int (0 + 1)), some (.int 49), some (.int (nI z1))], [], mjH (mjU I 22 0 (nI (numD g z1 p1 0))) X)) (fun _ => rfl) ?_
    rw [show (0 + 1 : Int32) = 1 from by decide]
    refine mjGo.run 3 (pc' := 34) (F' := ([some (.ref 0), some (.ref (27 + 2 * e)), some (.int (nI p)), some (.ref 1000002), some (.int (nI p2)), some (.int 1), some (.int 1), some (.int 49), some (.int (nI z1))], [.ref 1000002, .int 1], mjH (mjU I 22 0 (nI (numD g z1 p1 0))) X)) (fun _ => rfl) ?_
    refine mjGo.call (n := 1) (j := 3) (nx := 37) (o := some (.int 2)) (h' := mjH (mjU I 22 0 (nI (numD g z1 p1 0))) X) (fun _ => rfl) (t_ln2 d _) ?_
    show mjGo _ _ 37 ([some (.ref 0), some (.ref (27 + 2 * e)), some (.int (nI p)), some (.ref 1000002), some (.int (nI p2)), some (.int 1), some (.int 1), some (.int 49), some (.int (nI z1))], [.int 2, .int 1], mjH (mjU I 22 0 (nI (numD g z1 p1 0))) X) _
    refine mjGo.run 3 (pc' := 43) (F' := ([some (.ref 0), some (.ref (27 + 2 * e)), some (.int (nI p)), some (.ref 1000002), some (.int (nI p2)), some (.int 1), some (.int 1), some (.int 49), some (.int (nI z1))], [.int 1, .ref 1000002], mjH (mjU I 22 0 (nI (numD g z1 p1 0))) X)) (fun _ => rfl) ?_
    refine mjGo.call (n := 2) (j := 8) (nx := 46) (o := some (.int 59)) (h' := mjH (mjU I 22 0 (nI (numD g z1 p1 0))) X) (fun _ => rfl) (t_ch2_1 d _) ?_
    show mjGo _ _ 46 ([some (.ref 0), some (.ref (27 + 2 * e)), some (.int (nI p)), some (.ref 1000002), some (.int (nI p2)), some (.int 1), some (.int 1), some (.int 49), some (.int (nI z1))], [.int 59], mjH (mjU I 22 0 (nI (numD g z1 p1 0))) X) _
    refine mjGo.run 4 (pc' := 53) (F' := ([some (.ref 0), some (.ref (27 + 2 * e)), some (.int (nI p)), some (.ref 1000002), some (.int (nI p2)), some (.int 1), some (.int 1), some (.int 59), some (.int (nI z1))], [.int 59, .int (nI p2), .ref (27 + 2 * e)], mjH (mjU I 22 0 (nI (numD g z1 p1 0))) X)) (fun _ => rfl) ?_
    refine mjGo.call (n := 3) (j := 83) (nx := 56) (o := some (.int (nI (szP g 59 p2)))) (h' := mjH (mjU I 22 0 (nI (numD g z1 p1 0))) X) (fun _ => rfl) (c_xSz59 d (X := X) he (gOf.u hg) (by omega)) ?_
    show mjGo _ _ 56 ([some (.ref 0), some (.ref (27 + 2 * e)), some (.int (nI p)), some (.ref 1000002), some (.int (nI p2)), some (.int 1), some (.int 1), some (.int 59), some (.int (nI z1))], [.int (nI (szP g 59 p2))], mjH (mjU I 22 0 (nI (numD g z1 p1 0))) X) _
    refine mjGo.run 0 (pc' := 56) (F' := ([some (.ref 0), some (.ref (27 + 2 * e)), some (.int (nI p)), some (.ref 1000002), some (.int (nI p2)), some (.int 1), some (.int 1), some (.int 59), some (.int (nI z1))], [.int (nI (szP g 59 p2))], mjH (mjU I 22 0 (nI (numD g z1 p1 0))) X)) (fun _ => rfl) ?_
    obtain ⟨z2, hz2⟩ : ∃ t, t = szP g 59 p2 := ⟨_, rfl⟩
    have b2 : z2 ≤ 3 := by rw [hz2]; exact szP_3
    rw [show (nI (szP g 59 p2)) = nI z2 from congrArg nI hz2.symm]
    refine mjGo.run 3 (pc' := (bif decide ((nI z2) ≠ 0) then 68 else 63)) (F' := ([some (.ref 0), some (.ref (27 + 2 * e)), some (.int (nI p)), some (.ref 1000002), some (.int (nI p2)), some (.int 1), some (.int 1), some (.int 59), some (.int (nI z2))], [], mjH (mjU I 22 0 (nI (numD g z1 p1 0))) X)) (fun _ => rfl) ?_
    refine mjGo.br (fun q2 => ?_) (fun q2 => ?_)
    · show mjGo _ _ 68 _ _
      refine mjGo.run 6 (pc' := 122) (F' := ([some (.ref 0), some (.ref (27 + 2 * e)), some (.int (nI p)), some (.ref 1000002), some (.int (nI p2)), some (.int 1), some (.int 1), some (.int 59), some (.int (nI z2))], [], mjH (mjU I 22 0 (nI (numD g z1 p1 0))) X)) (fun _ => rfl) ?_
      refine mjGo.run 3 (pc' := 127) (F' := ([some (.ref 0), some (.ref (27 + 2 * e)), some (.int (nI p)), some (.ref 1000002), some (.int (nI p2)), some (.int 1), some (.int 1), some (.int 59), some (.int (nI z2))], [.int ((nI p2) + (nI z2))], mjH (mjU I 22 0 (nI (numD g z1 p1 0))) X)) (fun _ => rfl) ?_
      refine mjGo.run 0 (pc' := 127) (F' := ([some (.ref 0), some (.ref (27 + 2 * e)), some (.int (nI p)), some (.ref 1000002), some (.int (nI p2)), some (.int 1), some (.int 1), some (.int 59), some (.int (nI z2))], [.int ((nI p2) + (nI z2))], mjH (mjU I 22 0 (nI (numD g z1 p1 0))) X)) (fun _ => rfl) ?_
      obtain ⟨p3, hp3⟩ : ∃ t, t = p2 + z2 := ⟨_, rfl⟩
      rw [show ((nI p2) + (nI z2)) = nI p3 from (nI_add _ _).trans (congrArg nI hp3.symm)]
      refine mjGo.run 2 (pc' := 132) (F' := ([some (.ref 0), some (.ref (27 + 2 * e)), some (.int (nI p)), some (.ref 1000002), some (.int (nI p3)), some (.int 1), some (.int (1 + 1)), some (.int 59), some (.int (nI z2))], [], mjH (mjU I 22 0 (nI (numD g z1 p1 0))) X)) (fun _ => rfl) ?_
      refine mjGo.run 0 (pc' := 132) (F' := ([some (.ref 0), some (.ref (27 + 2 * e)), some (.int (nI p)), some (.ref 1000002), some (.int (nI p3)), some (.int 1), some (.int (1 + 1)), some (.int 59), some (.int (nI z2))], [], mjH (mjU I 22 0 (nI (numD g z1 p1 0))) X)) (fun _ => rfl) ?_
      rw [show (1 + 1 : Int32) = 2 from by decide]
      refine mjGo.run 3 (pc' := 34) (F' := ([some (.ref 0), some (.ref (27 + 2 * e)), some (.int (nI p)), some (.ref 1000002), some (.int (nI p3)), some (.int 1), some (.int 2), some (.int 59), some (.int (nI z2))], [.ref 1000002, .int 2], mjH (mjU I 22 0 (nI (numD g z1 p1 0))) X)) (fun _ => rfl) ?_
      refine mjGo.call (n := 1) (j := 3) (nx := 37) (o := some (.int 2)) (h' := mjH (mjU I 22 0 (nI (numD g z1 p1 0))) X) (fun _ => rfl) (t_ln2 d _) ?_
      show mjGo _ _ 37 ([some (.ref 0), some (.ref (27 + 2 * e)), some (.int (nI p)), some (.ref 1000002), some (.int (nI p3)), some (.int 1), some (.int 2), some (.int 59), some (.int (nI z2))], [.int 2, .int 2], mjH (mjU I 22 0 (nI (numD g z1 p1 0))) X) _
      have e9 : rdE g [49, 59] p1 = (p3, true) := by rw [rdE_t (by rw [← hz1]; exact q1), ← hz1, ← hp2, rdE_t (by rw [← hz2]; exact q2), ← hz2, ← hp3, rdE]
      refine mjGo.ret 3 (fun _ => rfl) ⟨_, rfl, (mjU I 22 0 (nI (numD g z1 p1 0))), rfl, fun k hk => by rw [mjU_r hk], ?_, fun _ i hi => ?_⟩
      · rw [e9]; rfl
      · have ev : vls g [49, 59] p1 = [nI (numD g z1 p1 0)] := by rw [vls, if_neg (by decide), ← hz1, ← hp2, vls, if_pos (by decide), ← hz2, ← hp3, vls, vlP_n (c := 49) (p := p1) (by decide), ← hz1]
        rw [ev]
        match i, hi with
        | 0, _ => rfl
    · show mjGo _ _ 63 _ _
      have e9 : rdE g [49, 59] p1 = (p2, false) := by rw [rdE_t (by rw [← hz1]; exact q1), ← hz1, ← hp2, rdE_f (by rw [← hz2]; exact q2)]
      refine mjGo.ret 4 (fun _ => rfl) ⟨_, rfl, (mjU I 22 0 (nI (numD g z1 p1 0))), rfl, fun k hk => by rw [mjU_r hk], ?_, fun w => ?_⟩
      · rw [e9]; rfl
      · rw [e9] at w; cases w
  · show mjGo _ _ 63 _ _
    have e9 : rdE g [49, 59] p1 = (p1, false) := by rw [rdE_f (by rw [← hz1]; exact q1)]
    refine mjGo.ret 4 (fun _ => rfl) ⟨_, rfl, I, rfl, fun k hk => rfl, ?_, fun w => ?_⟩
    · rw [e9]; rfl
    · rw [e9] at w; cases w
theorem c_xRd112 (d : Nat) {e p : Nat} {g : Nat → Int32} {I : Nat → Nat → Int32} {X : MX} (he : e < 8) (hg : gOf I e g) (hp : p < 900) (hl : g p = 112) : mjEvP (d + 4) nyX11_readStatement [.ref 0, .ref (27 + 2 * e), .int (nI p)] (mjH I X) (fun o h2 => ∃ J, h2 = mjH J X ∧ (∀ k, k ≠ 22 → J k = I k) ∧ o = some (.int (rdA (rdE g [51, 59] (p + 1)))) ∧ ((rdE g [51, 59] (p + 1)).2 = true → ∀ i, i < 1 → J 22 i = (vls g [51, 59] (p + 1)).getD i 0)) := by
  refine mjEvP.of ?_
  show mjGo (d + 4) nyX11_readStatement 0 ([some (.ref 0), some (.ref (27 + 2 * e)), some (.int (nI p)), none, none, none, none, none, none], [], mjH I X) _
  obtain ⟨p1, hp1⟩ : ∃ t, t = p + 1 := ⟨_, rfl⟩
  rw [show rdE g [51, 59] (p + 1) = rdE g [51, 59] p1 by rw [hp1], show vls g [51, 59] (p + 1) = vls g [51, 59] p1 by rw [hp1]]
  refine mjGo.run 2 (pc' := 2) (F' := ([some (.ref 0), some (.ref (27 + 2 * e)), some (.int (nI p)), none, none, none, none, none, none], [.int (nI p), .ref (27 + 2 * e)], mjH I X)) (fun _ => rfl) ?_
  refine mjGo.callL (o := some (.int (g p))) (h' := mjH I X) (nx := 5) rfl rfl rfl ((row_N he).1) ⟨_, row_lk he, (by have q9 := c_xVal (d + 2) (I := I) (X := X) e (nI p) he; rw [hg p (by omega)] at q9; exact q9)⟩ ?_
  show mjGo _ _ 5 ([some (.ref 0), some (.ref (27 + 2 * e)), some (.int (nI p)), none, none, none, none, none, none], [.int (g p)], mjH I X) _
  refine mjGo.run 0 (pc' := 5) (F' := ([some (.ref 0), some (.ref (27 + 2 * e)), some (.int (nI p)), none, none, none, none, none, none], [.int (g p)], mjH I X)) (fun _ => rfl) ?_
  rw [show (g p) = 112 from hl]
  refine mjGo.call (n := 1) (j := 79) (nx := 8) (o := some (.ref 1000003)) (h' := mjH I X) (fun _ => rfl) (t_fo3 _ _) ?_
  show mjGo _ _ 8 ([some (.ref 0), some (.ref (27 + 2 * e)), some (.int (nI p)), none, none, none, none, none, none], [.ref 1000003], mjH I X) _
  refine mjGo.run 2 (pc' := 10) (F' := ([some (.ref 0), some (.ref (27 + 2 * e)), some (.int (nI p)), some (.ref 1000003), none, none, none, none, none], [.ref 1000003], mjH I X)) (fun _ => rfl) ?_
  refine mjGo.call (n := 1) (j := 1) (nx := 13) (o := some (.int 0)) (h' := mjH I X) (fun _ => rfl) (t_em3 _ _) ?_
  show mjGo _ _ 13 ([some (.ref 0), some (.ref (27 + 2 * e)), some (.int (nI p)), some (.ref 1000003), none, none, none, none, none], [.int 0], mjH I X) _
  refine mjGo.run 4 (pc' := 23) (F' := ([some (.ref 0), some (.ref (27 + 2 * e)), some (.int (nI p)), some (.ref 1000003), none, none, none, none, none], [.int ((nI p) + 1)], mjH I X)) (fun _ => rfl) ?_
  refine mjGo.run 0 (pc' := 23) (F' := ([some (.ref 0), some (.ref (27 + 2 * e)), some (.int (nI p)), some (.ref 1000003), none, none, none, none, none], [.int ((nI p) + 1)], mjH I X)) (fun _ => rfl) ?_
  rw [show ((nI p) + 1) = nI p1 from (nI_1 p).trans (congrArg nI hp1.symm)]
  refine mjGo.run 7 (pc' := 34) (F' := ([some (.ref 0), some (.ref (27 + 2 * e)), some (.int (nI p)), some (.ref 1000003), some (.int (nI p1)), some (.int 0), some (.int 0), none, none], [.ref 1000003, .int 0], mjH I X)) (fun _ => rfl) ?_
  refine mjGo.call (n := 1) (j := 3) (nx := 37) (o := some (.int 2)) (h' := mjH I X) (fun _ => rfl) (t_ln3 d _) ?_
  show mjGo _ _ 37 ([some (.ref 0), some (.ref (27 + 2 * e)), some (.int (nI p)), some (.ref 1000003), some (.int (nI p1)), some (.int 0), some (.int 0), none, none], [.int 2, .int 0], mjH I X) _
  refine mjGo.run 3 (pc' := 43) (F' := ([some (.ref 0), some (.ref (27 + 2 * e)), some (.int (nI p)), some (.ref 1000003), some (.int (nI p1)), some (.int 0), some (.int 0), none, none], [.int 0, .ref 1000003], mjH I X)) (fun _ => rfl) ?_
  refine mjGo.call (n := 2) (j := 8) (nx := 46) (o := some (.int 51)) (h' := mjH I X) (fun _ => rfl) (t_ch3_0 d _) ?_
  show mjGo _ _ 46 ([some (.ref 0), some (.ref (27 + 2 * e)), some (.int (nI p)), some (.ref 1000003), some (.int (nI p1)), some (.int 0), some (.int 0), none, none], [.int 51], mjH I X) _
  refine mjGo.run 4 (pc' := 53) (F' := ([some (.ref 0), some (.ref (27 + 2 * e)), some (.int (nI p)), some (.ref 1000003), some (.int (nI p1)), some (.int 0), some (.int 0), some (.int 51), none], [.int 51, .int (nI p1), .ref (27 + 2 * e)], mjH I X)) (fun _ => rfl) ?_
  refine mjGo.call (n := 3) (j := 83) (nx := 56) (o := some (.int (nI (szP g 51 p1)))) (h' := mjH I X) (fun _ => rfl) (c_xSz51 d (X := X) he hg (by omega)) ?_
  show mjGo _ _ 56 ([some (.ref 0), some (.ref (27 + 2 * e)), some (.int (nI p)), some (.ref 1000003), some (.int (nI p1)), some (.int 0), some (.int 0), some (.int 51), none], [.int (nI (szP g 51 p1))], mjH I X) _
  refine mjGo.run 0 (pc' := 56) (F' := ([some (.ref 0), some (.ref (27 + 2 * e)), some (.int (nI p)), some (.ref 1000003), some (.int (nI p1)), some (.int 0), some (.int 0), some (.int 51), none], [.int (nI (szP g 51 p1))], mjH I X)) (fun _ => rfl) ?_
  obtain ⟨z1, hz1⟩ : ∃ t, t = szP g 51 p1 := ⟨_, rfl⟩
  have b1 : z1 ≤ 3 := by rw [hz1]; exact szP_3
  rw [show (nI (szP g 51 p1)) = nI z1 from congrArg nI hz1.symm]
  refine mjGo.run 3 (pc' := (bif decide ((nI z1) ≠ 0) then 68 else 63)) (F' := ([some (.ref 0), some (.ref (27 + 2 * e)), some (.int (nI p)), some (.ref 1000003), some (.int (nI p1)), some (.int 0), some (.int 0), some (.int 51), some (.int (nI z1))], [], mjH I X)) (fun _ => rfl) ?_
  refine mjGo.br (fun q1 => ?_) (fun q1 => ?_)
  · show mjGo _ _ 68 _ _
    refine mjGo.run 18 (pc' := 115) (F' := ([some (.ref 0), some (.ref (27 + 2 * e)), some (.int (nI p)), some (.ref 1000003), some (.int (nI p1)), some (.int 0), some (.int 0), some (.int 51), some (.int (nI z1))], [.int (nI z1), .int (nI p1), .ref (27 + 2 * e), .int 0, .ref 22], mjH I X)) (fun _ => rfl) ?_
    refine mjGo.call (n := 3) (j := 84) (nx := 118) (o := some (.int (nI (numD g z1 p1 0)))) (h' := mjH I X) (fun _ => rfl) (c_xNum (d + 1) (X := X) he hg (by omega) (fun i hi => nDg_dg (m := 3) (by rw [hz1] at hi; exact hi))) ?_
    show mjGo _ _ 118 ([some (.ref 0), some (.ref (27 + 2 * e)), some (.int (nI p)), some (.ref 1000003), some (.int (nI p1)), some (.int 0), some (.int 0), some (.int 51), some (.int (nI z1))], [.int (nI (numD g z1 p1 0)), .int 0, .ref 22], mjH I X) _
    refine mjGo.run 2 (pc' := 122) (F' := ([some (.ref 0), some (.ref (27 + 2 * e)), some (.int (nI p)), some (.ref 1000003), some (.int (nI p1)), some (.int (0 + 1)), some (.int 0), some (.int 51), some (.int (nI z1))], [], mjH (mjU I 22 0 (nI (numD g z1 p1 0))) X)) (fun _ => rfl) ?_
    refine mjGo.run 0 (pc' := 122) (F' := ([some (.ref 0), some (.ref (27 + 2 * e)), some (.int (nI p)), some (.ref 1000003), some (.int (nI p1)), some (.int (0 + 1)), some (.int 0), some (.int 51), some (.int (nI z1))], [], mjH (mjU I 22 0 (nI (numD g z1 p1 0))) X)) (fun _ => rfl) ?_
    rw [show (0 + 1 : Int32) = 1 from by decide]
    refine mjGo.run 3 (pc' := 127) (F' := ([some (.ref 0), some (.ref (27 + 2 * e)), some (.int (nI p)), some (.ref 1000003), some (.int (nI p1)), some (.int 1), some (.int 0), some (.int 51), some (.int (nI z1))], [.int ((nI p1) + (nI z1))], mjH (mjU I 22 0 (nI (numD g z1 p1 0))) X)) (fun _ => rfl) ?_
    refine mjGo.run 0 (pc' := 127) (F' := ([some (.ref 0), some (.ref (27 + 2 * e)), some (.int (nI p)), some (.ref 1000003), some (.int (nI p1)), some (.int 1), some (.int 0), some (.int 51), some (.int (nI z1))], [.int ((nI p1) + (nI z1))], mjH (mjU I 22 0 (nI (numD g z1 p1 0))) X)) (fun _ => rfl) ?_
    obtain ⟨p2, hp2⟩ : ∃ t, t = p1 + z1 := ⟨_, rfl⟩
    rw [show ((nI p1) + (nI z1)) = nI p2 from (nI_add _ _).trans (congrArg nI hp2.symm)]
    refine mjGo.run 2 (pc' := 132) (F' := ([some (.ref 0), some (.ref (27 + 2 * e)), some (.int (nI p)), some (.ref 1000003), some (.int (nI p2)), some (.int 1), some (.int (0 + 1)), some (.int 51), some (.int (nI z1))], [], mjH (mjU I 22 0 (nI (numD g z1 p1 0))) X)) (fun _ => rfl) ?_
    refine mjGo.run 0 (pc' := 132) (F' := ([some (.ref 0), some (.ref (27 + 2 * e)), some (.int (nI p)), some (.ref 1000003), some (.int (nI p2)), some (.int 1), some (.int (0 + 1)), some (.int 51), some (.int (nI z1))], [], mjH (mjU I 22 0 (nI (numD g z1 p1 0))) X)) (fun _ => rfl) ?_
    rw [show (0 + 1 : Int32) = 1 from by decide]
    refine mjGo.run 3 (pc' := 34) (F' := ([some (.ref 0), some (.ref (27 + 2 * e)), some (.int (nI p)), some (.ref 1000003), some (.int (nI p2)), some (.int 1), some (.int 1), some (.int 51), some (.int (nI z1))], [.ref 1000003, .int 1], mjH (mjU I 22 0 (nI (numD g z1 p1 0))) X)) (fun _ => rfl) ?_
    refine mjGo.call (n := 1) (j := 3) (nx := 37) (o := some (.int 2)) (h' := mjH (mjU I 22 0 (nI (numD g z1 p1 0))) X) (fun _ => rfl) (t_ln3 d _) ?_
    show mjGo _ _ 37 ([some (.ref 0), some (.ref (27 + 2 * e)), some (.int (nI p)), some (.ref 1000003), some (.int (nI p2)), some (.int 1), some (.int 1), some (.int 51), some (.int (nI z1))], [.int 2, .int 1], mjH (mjU I 22 0 (nI (numD g z1 p1 0))) X) _
    refine mjGo.run 3 (pc' := 43) (F' := ([some (.ref 0), some (.ref (27 + 2 * e)), some (.int (nI p)), some (.ref 1000003), some (.int (nI p2)), some (.int 1), some (.int 1), some (.int 51), some (.int (nI z1))], [.int 1, .ref 1000003], mjH (mjU I 22 0 (nI (numD g z1 p1 0))) X)) (fun _ => rfl) ?_
    refine mjGo.call (n := 2) (j := 8) (nx := 46) (o := some (.int 59)) (h' := mjH (mjU I 22 0 (nI (numD g z1 p1 0))) X) (fun _ => rfl) (t_ch3_1 d _) ?_
    show mjGo _ _ 46 ([some (.ref 0), some (.ref (27 + 2 * e)), some (.int (nI p)), some (.ref 1000003), some (.int (nI p2)), some (.int 1), some (.int 1), some (.int 51), some (.int (nI z1))], [.int 59], mjH (mjU I 22 0 (nI (numD g z1 p1 0))) X) _
    refine mjGo.run 4 (pc' := 53) (F' := ([some (.ref 0), some (.ref (27 + 2 * e)), some (.int (nI p)), some (.ref 1000003), some (.int (nI p2)), some (.int 1), some (.int 1), some (.int 59), some (.int (nI z1))], [.int 59, .int (nI p2), .ref (27 + 2 * e)], mjH (mjU I 22 0 (nI (numD g z1 p1 0))) X)) (fun _ => rfl) ?_
    refine mjGo.call (n := 3) (j := 83) (nx := 56) (o := some (.int (nI (szP g 59 p2)))) (h' := mjH (mjU I 22 0 (nI (numD g z1 p1 0))) X) (fun _ => rfl) (c_xSz59 d (X := X) he (gOf.u hg) (by omega)) ?_
    show mjGo _ _ 56 ([some (.ref 0), some (.ref (27 + 2 * e)), some (.int (nI p)), some (.ref 1000003), some (.int (nI p2)), some (.int 1), some (.int 1), some (.int 59), some (.int (nI z1))], [.int (nI (szP g 59 p2))], mjH (mjU I 22 0 (nI (numD g z1 p1 0))) X) _
    refine mjGo.run 0 (pc' := 56) (F' := ([some (.ref 0), some (.ref (27 + 2 * e)), some (.int (nI p)), some (.ref 1000003), some (.int (nI p2)), some (.int 1), some (.int 1), some (.int 59), some (.int (nI z1))], [.int (nI (szP g 59 p2))], mjH (mjU I 22 0 (nI (numD g z1 p1 0))) X)) (fun _ => rfl) ?_
    obtain ⟨z2, hz2⟩ : ∃ t, t = szP g 59 p2 := ⟨_, rfl⟩
    have b2 : z2 ≤ 3 := by rw [hz2]; exact szP_3
    rw [show (nI (szP g 59 p2)) = nI z2 from congrArg nI hz2.symm]
    refine mjGo.run 3 (pc' := (bif decide ((nI z2) ≠ 0) then 68 else 63)) (F' := ([some (.ref 0), some (.ref (27 + 2 * e)), some (.int (nI p)), some (.ref 1000003), some (.int (nI p2)), some (.int 1), some (.int 1), some (.int 59), some (.int (nI z2))], [], mjH (mjU I 22 0 (nI (numD g z1 p1 0))) X)) (fun _ => rfl) ?_
    refine mjGo.br (fun q2 => ?_) (fun q2 => ?_)
    · show mjGo _ _ 68 _ _
      refine mjGo.run 6 (pc' := 122) (F' := ([some (.ref 0), some (.ref (27 + 2 * e)), some (.int (nI p)), some (.ref 1000003), some (.int (nI p2)), some (.int 1), some (.int 1), some (.int 59), some (.int (nI z2))], [], mjH (mjU I 22 0 (nI (numD g z1 p1 0))) X)) (fun _ => rfl) ?_
      refine mjGo.run 3 (pc' := 127) (F' := ([some (.ref 0), some (.ref (27 + 2 * e)), some (.int (nI p)), some (.ref 1000003), some (.int (nI p2)), some (.int 1), some (.int 1), some (.int 59), some (.int (nI z2))], [.int ((nI p2) + (nI z2))], mjH (mjU I 22 0 (nI (numD g z1 p1 0))) X)) (fun _ => rfl) ?_
      refine mjGo.run 0 (pc' := 127) (F' := ([some (.ref 0), some (.ref (27 + 2 * e)), some (.int (nI p)), some (.ref 1000003), some (.int (nI p2)), some (.int 1), some (.int 1), some (.int 59), some (.int (nI z2))], [.int ((nI p2) + (nI z2))], mjH (mjU I 22 0 (nI (numD g z1 p1 0))) X)) (fun _ => rfl) ?_
      obtain ⟨p3, hp3⟩ : ∃ t, t = p2 + z2 := ⟨_, rfl⟩
      rw [show ((nI p2) + (nI z2)) = nI p3 from (nI_add _ _).trans (congrArg nI hp3.symm)]
      refine mjGo.run 2 (pc' := 132) (F' := ([some (.ref 0), some (.ref (27 + 2 * e)), some (.int (nI p)), some (.ref 1000003), some (.int (nI p3)), some (.int 1), some (.int (1 + 1)), some (.int 59), some (.int (nI z2))], [], mjH (mjU I 22 0 (nI (numD g z1 p1 0))) X)) (fun _ => rfl) ?_
      refine mjGo.run 0 (pc' := 132) (F' := ([some (.ref 0), some (.ref (27 + 2 * e)), some (.int (nI p)), some (.ref 1000003), some (.int (nI p3)), some (.int 1), some (.int (1 + 1)), some (.int 59), some (.int (nI z2))], [], mjH (mjU I 22 0 (nI (numD g z1 p1 0))) X)) (fun _ => rfl) ?_
      rw [show (1 + 1 : Int32) = 2 from by decide]
      refine mjGo.run 3 (pc' := 34) (F' := ([some (.ref 0), some (.ref (27 + 2 * e)), some (.int (nI p)), some (.ref 1000003), some (.int (nI p3)), some (.int 1), some (.int 2), some (.int 59), some (.int (nI z2))], [.ref 1000003, .int 2], mjH (mjU I 22 0 (nI (numD g z1 p1 0))) X)) (fun _ => rfl) ?_
      refine mjGo.call (n := 1) (j := 3) (nx := 37) (o := some (.int 2)) (h' := mjH (mjU I 22 0 (nI (numD g z1 p1 0))) X) (fun _ => rfl) (t_ln3 d _) ?_
      show mjGo _ _ 37 ([some (.ref 0), some (.ref (27 + 2 * e)), some (.int (nI p)), some (.ref 1000003), some (.int (nI p3)), some (.int 1), some (.int 2), some (.int 59), some (.int (nI z2))], [.int 2, .int 2], mjH (mjU I 22 0 (nI (numD g z1 p1 0))) X) _
      have e9 : rdE g [51, 59] p1 = (p3, true) := by rw [rdE_t (by rw [← hz1]; exact q1), ← hz1, ← hp2, rdE_t (by rw [← hz2]; exact q2), ← hz2, ← hp3, rdE]
      refine mjGo.ret 3 (fun _ => rfl) ⟨_, rfl, (mjU I 22 0 (nI (numD g z1 p1 0))), rfl, fun k hk => by rw [mjU_r hk], ?_, fun _ i hi => ?_⟩
      · rw [e9]; rfl
      · have ev : vls g [51, 59] p1 = [nI (numD g z1 p1 0)] := by rw [vls, if_neg (by decide), ← hz1, ← hp2, vls, if_pos (by decide), ← hz2, ← hp3, vls, vlP_n (c := 51) (p := p1) (by decide), ← hz1]
        rw [ev]
        match i, hi with
        | 0, _ => rfl
    · show mjGo _ _ 63 _ _
      have e9 : rdE g [51, 59] p1 = (p2, false) := by rw [rdE_t (by rw [← hz1]; exact q1), ← hz1, ← hp2, rdE_f (by rw [← hz2]; exact q2)]
      refine mjGo.ret 4 (fun _ => rfl) ⟨_, rfl, (mjU I 22 0 (nI (numD g z1 p1 0))), rfl, fun k hk => by rw [mjU_r hk], ?_, fun w => ?_⟩
      · rw [e9]; rfl
      · rw [e9] at w; cases w
  · show mjGo _ _ 63 _ _
    have e9 : rdE g [51, 59] p1 = (p1, false) := by rw [rdE_f (by rw [← hz1]; exact q1)]
    refine mjGo.ret 4 (fun _ => rfl) ⟨_, rfl, I, rfl, fun k hk => rfl, ?_, fun w => ?_⟩
    · rw [e9]; rfl
    · rw [e9] at w; cases w
theorem c_xRdN (d : Nat) {e p : Nat} {g : Nat → Int32} {I : Nat → Nat → Int32} {X : MX} (he : e < 8) (hg : gOf I e g) (hp : p < 900) (h1 : g p ≠ 119) (h2 : g p ≠ 107) (h3 : g p ≠ 108) (h4 : g p ≠ 112) : mjEv (d + 4) nyX11_readStatement [.ref 0, .ref (27 + 2 * e), .int (nI p)] (mjH I X) (.inl (some (.int (-1 - nI p)))) (mjH I X) := by
  refine mjEv.of ?_
  show mjGo (d + 4) nyX11_readStatement 0 ([some (.ref 0), some (.ref (27 + 2 * e)), some (.int (nI p)), none, none, none, none, none, none], [], mjH I X) _
  refine mjGo.run 2 (pc' := 2) (F' := ([some (.ref 0), some (.ref (27 + 2 * e)), some (.int (nI p)), none, none, none, none, none, none], [.int (nI p), .ref (27 + 2 * e)], mjH I X)) (fun _ => rfl) ?_
  refine mjGo.callL (o := some (.int (g p))) (h' := mjH I X) (nx := 5) rfl rfl rfl ((row_N he).1) ⟨_, row_lk he, (by have q9 := c_xVal (d + 2) (I := I) (X := X) e (nI p) he; rw [hg p (by omega)] at q9; exact q9)⟩ ?_
  show mjGo _ _ 5 ([some (.ref 0), some (.ref (27 + 2 * e)), some (.int (nI p)), none, none, none, none, none, none], [.int (g p)], mjH I X) _
  refine mjGo.call (n := 1) (j := 79) (nx := 8) (o := some (.ref 1000004)) (h' := mjH I X) (fun _ => rfl) (t_fo4 _ h1 h2 h3 h4 _) ?_
  show mjGo _ _ 8 ([some (.ref 0), some (.ref (27 + 2 * e)), some (.int (nI p)), none, none, none, none, none, none], [.ref 1000004], mjH I X) _
  refine mjGo.run 2 (pc' := 10) (F' := ([some (.ref 0), some (.ref (27 + 2 * e)), some (.int (nI p)), some (.ref 1000004), none, none, none, none, none], [.ref 1000004], mjH I X)) (fun _ => rfl) ?_
  refine mjGo.call (n := 1) (j := 1) (nx := 13) (o := some (.int 1)) (h' := mjH I X) (fun _ => rfl) (t_em4 _ _) ?_
  show mjGo _ _ 13 ([some (.ref 0), some (.ref (27 + 2 * e)), some (.int (nI p)), some (.ref 1000004), none, none, none, none, none], [.int 1], mjH I X) _
  exact mjGo.ret 5 (fun _ => rfl) rfl
theorem lfm_no {l : Int32} (h1 : l ≠ 119) (h2 : l ≠ 107) (h3 : l ≠ 108) (h4 : l ≠ 112) : lfm l = [] := by
  unfold lfm
  rw [if_neg h1, if_neg h2, if_neg h3, if_neg h4]
def lfn (l : Int32) : Nat := if l = 119 then 3 else if l = 107 then 5 else if l = 108 then 1 else if l = 112 then 1 else 0
theorem c_xRd (d : Nat) {e p : Nat} {g : Nat → Int32} {I : Nat → Nat → Int32} {X : MX} (he : e < 8) (hg : gOf I e g) (hp : p < 900) : mjEvP (d + 4) nyX11_readStatement [.ref 0, .ref (27 + 2 * e), .int (nI p)] (mjH I X) (fun o h2 => ∃ J, h2 = mjH J X ∧ (∀ k, k ≠ 22 → J k = I k) ∧ o = some (.int (rdA (stE g p))) ∧ ((stE g p).2 = true → ∀ i, i < lfn (g p) → J 22 i = (stV g p).getD i 0)) := by
  unfold stE stV
  by_cases h1 : g p = 119
  · have e : lfm (g p) = [51, 32, 50, 32, 49, 59] := by rw [h1]; rfl
    have en : lfn (g p) = 3 := by rw [h1]; rfl
    rw [e, en, if_neg (by decide)]
    exact c_xRd119 d he hg hp h1
  by_cases h2 : g p = 107
  · have e : lfm (g p) = [49, 49, 43, 50, 32, 51, 59] := by rw [h2]; rfl
    have en : lfn (g p) = 5 := by rw [h2]; rfl
    rw [e, en, if_neg (by decide)]
    exact c_xRd107 d he hg hp h2
  by_cases h3 : g p = 108
  · have e : lfm (g p) = [49, 59] := by rw [h3]; rfl
    have en : lfn (g p) = 1 := by rw [h3]; rfl
    rw [e, en, if_neg (by decide)]
    exact c_xRd108 d he hg hp h3
  by_cases h4 : g p = 112
  · have e : lfm (g p) = [51, 59] := by rw [h4]; rfl
    have en : lfn (g p) = 1 := by rw [h4]; rfl
    rw [e, en, if_neg (by decide)]
    exact c_xRd112 d he hg hp h4
  rw [lfm_no h1 h2 h3 h4, if_pos rfl]
  exact ⟨_, _, c_xRdN d he hg hp h1 h2 h3 h4, I, rfl, fun _ _ => rfl, rfl, fun w => by cases w⟩
