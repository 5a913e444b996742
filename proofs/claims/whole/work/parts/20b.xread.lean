/-! texts: the class reads -/
theorem x_dg_loop {d e p : Nat} {g : Nat → Int32} {I : Nat → Nat → Int32} {X : MX} (he : e < 8) (hg : gOf I e g) {m : Nat} (hp : p + m < 1000) : ∀ (k j : Nat), j + k = m → mjGo (d + 2) nyX11_digitsAt 14 ([some (.ref (27 + 2 * e)), some (.int (nI p)), some (.int (nI m)), some (.int (nI j))], [], mjH I X) (fun x => x = (.inl (some (.int (nI (j + cntD g k (p + j))))), mjH I X)) := by
  intro k
  induction k with
  | zero =>
    intro j hj
    refine mjGo.run 2 (pc' := 16) (F' := ([some (.ref (27 + 2 * e)), some (.int (nI p)), some (.int (nI m)), some (.int (nI j))], [.int (nI m), .int (nI j)], mjH I X)) (fun _ => rfl) ?_
    refine mjGo.run 1 (pc' := (bif decide ((nI m) ≤ (nI j)) then 38 else 19)) (F' := ([some (.ref (27 + 2 * e)), some (.int (nI p)), some (.int (nI m)), some (.int (nI j))], [], mjH I X)) (fun _ => rfl) ?_
    refine mjGo.brT (show (nI m) ≤ (nI j) by rw [nI_leI (by omega) (by omega)]; omega) ?_
    show mjGo _ _ 38 _ _
    exact mjGo.ret 2 (fun _ => rfl) rfl
  | succ k ih =>
    intro j hj
    refine mjGo.run 2 (pc' := 16) (F' := ([some (.ref (27 + 2 * e)), some (.int (nI p)), some (.int (nI m)), some (.int (nI j))], [.int (nI m), .int (nI j)], mjH I X)) (fun _ => rfl) ?_
    refine mjGo.run 1 (pc' := (bif decide ((nI m) ≤ (nI j)) then 38 else 19)) (F' := ([some (.ref (27 + 2 * e)), some (.int (nI p)), some (.int (nI m)), some (.int (nI j))], [], mjH I X)) (fun _ => rfl) ?_
    refine mjGo.brF (show ¬ (nI m) ≤ (nI j) by rw [nI_leI (by omega) (by omega)]; omega) ?_
    show mjGo _ _ 19 _ _
    refine mjGo.run 4 (pc' := 23) (F' := ([some (.ref (27 + 2 * e)), some (.int (nI p)), some (.int (nI m)), some (.int (nI j))], [.int ((nI p) + (nI j)), .ref (27 + 2 * e)], mjH I X)) (fun _ => rfl) ?_
    refine mjGo.callL (o := some (.int (g (p + j)))) (h' := mjH I X) (nx := 26) rfl rfl rfl ((row_N he).1) ⟨_, row_lk he, (by have q9 := c_xVal d (I := I) (X := X) e (nI (p + j)) he; rw [hg (p + j) (by omega)] at q9; rw [show ((nI p) + (nI j)) = nI (p + j) from nI_add _ _]; exact q9)⟩ ?_
    show mjGo _ _ 26 ([some (.ref (27 + 2 * e)), some (.int (nI p)), some (.int (nI m)), some (.int (nI j))], [.int (g (p + j))], mjH I X) _
    refine mjGo.call (n := 1) (j := 80) (nx := 29) (o := some (.int (xDigit (g (p + j))))) (h' := mjH I X) (fun _ => rfl) (c_xDigit (d + 1) (g (p + j)) _) ?_
    show mjGo _ _ 29 ([some (.ref (27 + 2 * e)), some (.int (nI p)), some (.int (nI m)), some (.int (nI j))], [.int (xDigit (g (p + j)))], mjH I X) _
    refine mjGo.run 1 (pc' := (bif decide ((xDigit (g (p + j))) = 0) then 38 else 32)) (F' := ([some (.ref (27 + 2 * e)), some (.int (nI p)), some (.int (nI m)), some (.int (nI j))], [], mjH I X)) (fun _ => rfl) ?_
    refine mjGo.br (fun q1 => ?_) (fun q1 => ?_)
    · show mjGo _ _ 38 _ _
      have w := dgt_d.1.mp q1
      rw [cntD, w, if_neg (by decide), Nat.add_zero]
      exact mjGo.ret 2 (fun _ => rfl) rfl
    · show mjGo _ _ 32 _ _
      refine mjGo.run 2 (pc' := 14) (F' := ([some (.ref (27 + 2 * e)), some (.int (nI p)), some (.int (nI m)), some (.int ((nI j) + 1))], [], mjH I X)) (fun _ => rfl) ?_
      have w := dgt_d.2.mp (show xDigit (g (p + j)) ≠ 0 from q1)
      have k9 := ih (j + 1) (by omega)
      rw [← nI_1] at k9
      rw [cntD, if_pos w, show j + (cntD g k (p + j + 1) + 1) = j + 1 + cntD g k (p + (j + 1)) by rw [show p + (j + 1) = p + j + 1 from rfl]; omega]
      exact k9
theorem c_xDgs (d : Nat) {e p m : Nat} {g : Nat → Int32} {I : Nat → Nat → Int32} {X : MX} (he : e < 8) (hg : gOf I e g) (hp : p + m < 1000) : mjEv (d + 2) nyX11_digitsAt [.ref (27 + 2 * e), .int (nI p), .int (nI m)] (mjH I X) (.inl (some (.int (nI (nDg g m p))))) (mjH I X) := by
  refine mjEv.of ?_
  show mjGo (d + 2) nyX11_digitsAt 0 ([some (.ref (27 + 2 * e)), some (.int (nI p)), some (.int (nI m)), none], [], mjH I X) _
  refine mjGo.run 2 (pc' := 2) (F' := ([some (.ref (27 + 2 * e)), some (.int (nI p)), some (.int (nI m)), none], [.int (nI p), .ref (27 + 2 * e)], mjH I X)) (fun _ => rfl) ?_
  refine mjGo.callL (o := some (.int (g p))) (h' := mjH I X) (nx := 5) rfl rfl rfl ((row_N he).1) ⟨_, row_lk he, (by have q9 := c_xVal d (I := I) (X := X) e (nI p) he; rw [hg p (by omega)] at q9; exact q9)⟩ ?_
  show mjGo _ _ 5 ([some (.ref (27 + 2 * e)), some (.int (nI p)), some (.int (nI m)), none], [.int (g p)], mjH I X) _
  refine mjGo.run 2 (pc' := (bif decide ((g p) ≠ 48) then 12 else 10)) (F' := ([some (.ref (27 + 2 * e)), some (.int (nI p)), some (.int (nI m)), none], [], mjH I X)) (fun _ => rfl) ?_
  refine mjGo.br (fun q1 => ?_) (fun q1 => ?_)
  · show mjGo _ _ 12 _ _
    refine mjGo.run 2 (pc' := 14) (F' := ([some (.ref (27 + 2 * e)), some (.int (nI p)), some (.int (nI m)), some (.int 0)], [], mjH I X)) (fun _ => rfl) ?_
    have k9 := x_dg_loop (d := d) (X := X) he hg hp m 0 (by omega)
    rw [Nat.zero_add, Nat.add_zero] at k9
    rw [nDg, if_neg q1]
    exact k9
  · show mjGo _ _ 10 _ _
    rw [nDg, if_pos (Decidable.not_not.mp q1)]
    exact mjGo.ret 2 (fun _ => rfl) rfl
theorem x_nm_loop {d e p : Nat} {g : Nat → Int32} {I : Nat → Nat → Int32} {X : MX} (he : e < 8) (hg : gOf I e g) {m : Nat} (hp : p + m < 1000) (hd : ∀ i, i < m → dgt (g (p + i)) = true) : ∀ (k j v : Nat), j + k = m → mjGo (d + 2) nyX11_numberAt 5 ([some (.ref (27 + 2 * e)), some (.int (nI p)), some (.int (nI m)), some (.int (nI v)), some (.int (nI j))], [], mjH I X) (fun x => x = (.inl (some (.int (nI (numD g k (p + j) v)))), mjH I X)) := by
  intro k
  induction k with
  | zero =>
    intro j v hj
    refine mjGo.run 2 (pc' := 8) (F' := ([some (.ref (27 + 2 * e)), some (.int (nI p)), some (.int (nI m)), some (.int (nI v)), some (.int (nI j))], [.int (nI m), .int (nI j)], mjH I X)) (fun _ => rfl) ?_
    refine mjGo.run 1 (pc' := (bif decide ((nI m) ≤ (nI j)) then 34 else 11)) (F' := ([some (.ref (27 + 2 * e)), some (.int (nI p)), some (.int (nI m)), some (.int (nI v)), some (.int (nI j))], [], mjH I X)) (fun _ => rfl) ?_
    refine mjGo.brT (show (nI m) ≤ (nI j) by rw [nI_leI (by omega) (by omega)]; omega) ?_
    show mjGo _ _ 34 _ _
    exact mjGo.ret 2 (fun _ => rfl) rfl
  | succ k ih =>
    intro j v hj
    have w := hd j (by omega)
    have w2 := (dgt_n w).1
    refine mjGo.run 2 (pc' := 8) (F' := ([some (.ref (27 + 2 * e)), some (.int (nI p)), some (.int (nI m)), some (.int (nI v)), some (.int (nI j))], [.int (nI m), .int (nI j)], mjH I X)) (fun _ => rfl) ?_
    refine mjGo.run 1 (pc' := (bif decide ((nI m) ≤ (nI j)) then 34 else 11)) (F' := ([some (.ref (27 + 2 * e)), some (.int (nI p)), some (.int (nI m)), some (.int (nI v)), some (.int (nI j))], [], mjH I X)) (fun _ => rfl) ?_
    refine mjGo.brF (show ¬ (nI m) ≤ (nI j) by rw [nI_leI (by omega) (by omega)]; omega) ?_
    show mjGo _ _ 11 _ _
    refine mjGo.run 7 (pc' := 20) (F' := ([some (.ref (27 + 2 * e)), some (.int (nI p)), some (.int (nI m)), some (.int (nI v)), some (.int (nI j))], [.int ((nI p) + (nI j)), .ref (27 + 2 * e), .int ((nI v) * 10)], mjH I X)) (fun _ => rfl) ?_
    refine mjGo.callL (o := some (.int (g (p + j)))) (h' := mjH I X) (nx := 23) rfl rfl rfl ((row_N he).1) ⟨_, row_lk he, (by have q9 := c_xVal d (I := I) (X := X) e (nI (p + j)) he; rw [hg (p + j) (by omega)] at q9; rw [show ((nI p) + (nI j)) = nI (p + j) from nI_add _ _]; exact q9)⟩ ?_
    show mjGo _ _ 23 ([some (.ref (27 + 2 * e)), some (.int (nI p)), some (.int (nI m)), some (.int (nI v)), some (.int (nI j))], [.int (g (p + j)), .int ((nI v) * 10)], mjH I X) _
    refine mjGo.run 3 (pc' := 27) (F' := ([some (.ref (27 + 2 * e)), some (.int (nI p)), some (.int (nI m)), some (.int (nI v)), some (.int (nI j))], [.int ((((nI v) * 10) + (g (p + j))) - 48)], mjH I X)) (fun _ => rfl) ?_
    refine mjGo.run 0 (pc' := 27) (F' := ([some (.ref (27 + 2 * e)), some (.int (nI p)), some (.int (nI m)), some (.int (nI v)), some (.int (nI j))], [.int ((((nI v) * 10) + (g (p + j))) - 48)], mjH I X)) (fun _ => rfl) ?_
    rw [show ((((nI v) * 10) + (g (p + j))) - 48) = (nI (10 * v + dval (g (p + j)))) from (congrArg (fun t => ((nI v * 10) + t) - 48) w2).trans num_s]
    refine mjGo.run 3 (pc' := 5) (F' := ([some (.ref (27 + 2 * e)), some (.int (nI p)), some (.int (nI m)), some (.int (nI (10 * v + dval (g (p + j))))), some (.int ((nI j) + 1))], [], mjH I X)) (fun _ => rfl) ?_
    have k9 := ih (j + 1) (10 * v + dval (g (p + j))) (by omega)
    rw [← nI_1] at k9
    exact k9
theorem c_xNum (d : Nat) {e p m : Nat} {g : Nat → Int32} {I : Nat → Nat → Int32} {X : MX} (he : e < 8) (hg : gOf I e g) (hp : p + m < 1000) (hd : ∀ i, i < m → dgt (g (p + i)) = true) : mjEv (d + 2) nyX11_numberAt [.ref (27 + 2 * e), .int (nI p), .int (nI m)] (mjH I X) (.inl (some (.int (nI (numD g m p 0))))) (mjH I X) := by
  refine mjEv.of ?_
  refine mjGo.run 4 (pc' := 5) (F' := ([some (.ref (27 + 2 * e)), some (.int (nI p)), some (.int (nI m)), some (.int (nI 0)), some (.int (nI 0))], [], mjH I X)) (fun _ => rfl) ?_
  exact x_nm_loop (d := d) he hg hp hd m 0 0 (by omega)
theorem c_xSgn (d : Nat) {e p : Nat} {g : Nat → Int32} {I : Nat → Nat → Int32} {X : MX} (he : e < 8) (hg : gOf I e g) (hp : p < 1000) : mjEv (d + 2) nyX11_signAt [.ref (27 + 2 * e), .int (nI p)] (mjH I X) (.inl (some (.int (sgV g p)))) (mjH I X) := by
  refine mjEv.of ?_
  show mjGo (d + 2) nyX11_signAt 0 ([some (.ref (27 + 2 * e)), some (.int (nI p)), none], [], mjH I X) _
  refine mjGo.run 2 (pc' := 2) (F' := ([some (.ref (27 + 2 * e)), some (.int (nI p)), none], [.int (nI p), .ref (27 + 2 * e)], mjH I X)) (fun _ => rfl) ?_
  refine mjGo.callL (o := some (.int (g p))) (h' := mjH I X) (nx := 5) rfl rfl rfl ((row_N he).1) ⟨_, row_lk he, (by have q9 := c_xVal d (I := I) (X := X) e (nI p) he; rw [hg p (by omega)] at q9; exact q9)⟩ ?_
  show mjGo _ _ 5 ([some (.ref (27 + 2 * e)), some (.int (nI p)), none], [.int (g p)], mjH I X) _
  refine mjGo.run 4 (pc' := (bif decide ((g p) ≠ 43) then 16 else 12)) (F' := ([some (.ref (27 + 2 * e)), some (.int (nI p)), some (.int (g p))], [], mjH I X)) (fun _ => rfl) ?_
  refine mjGo.br (fun q1 => ?_) (fun q1 => ?_)
  · show mjGo _ _ 16 _ _
    refine mjGo.run 3 (pc' := (bif decide ((g p) ≠ 45) then 26 else 22)) (F' := ([some (.ref (27 + 2 * e)), some (.int (nI p)), some (.int (g p))], [], mjH I X)) (fun _ => rfl) ?_
    refine mjGo.br (fun q2 => ?_) (fun q2 => ?_)
    · show mjGo _ _ 26 _ _
      rw [sgV, if_neg q1, if_neg q2]
      exact mjGo.ret 2 (fun _ => rfl) rfl
    · show mjGo _ _ 22 _ _
      rw [sgV, if_neg q1, if_pos (Decidable.not_not.mp q2)]
      exact mjGo.ret 3 (fun _ => rfl) rfl
  · show mjGo _ _ 12 _ _
    rw [sgV, if_pos (Decidable.not_not.mp q1)]
    exact mjGo.ret 3 (fun _ => rfl) rfl
theorem c_xSz49 (d : Nat) {e p : Nat} {g : Nat → Int32} {I : Nat → Nat → Int32} {X : MX} (he : e < 8) (hg : gOf I e g) (hp : p < 990) : mjEv (d + 3) nyX11_sizeOfPart [.ref (27 + 2 * e), .int (nI p), .int 49] (mjH I X) (.inl (some (.int (nI (szP g 49 p))))) (mjH I X) := by
  refine mjEv.of ?_
  show mjGo (d + 3) nyX11_sizeOfPart 0 ([some (.ref (27 + 2 * e)), some (.int (nI p)), some (.int 49)], [], mjH I X) _
  refine mjGo.run 11 (pc' := 18) (F' := ([some (.ref (27 + 2 * e)), some (.int (nI p)), some (.int 49)], [.int (49 - 48), .int (nI p), .ref (27 + 2 * e)], mjH I X)) (fun _ => rfl) ?_
  refine mjGo.run 0 (pc' := 18) (F' := ([some (.ref (27 + 2 * e)), some (.int (nI p)), some (.int 49)], [.int (49 - 48), .int (nI p), .ref (27 + 2 * e)], mjH I X)) (fun _ => rfl) ?_
  rw [show (49 - 48) = (nI 1) from rfl]
  refine mjGo.call (n := 3) (j := 81) (nx := 21) (o := some (.int (nI (nDg g 1 p)))) (h' := mjH I X) (fun _ => rfl) (c_xDgs d (m := 1) (X := X) he hg (by omega)) ?_
  show mjGo _ _ 21 ([some (.ref (27 + 2 * e)), some (.int (nI p)), some (.int 49)], [.int (nI (nDg g 1 p))], mjH I X) _
  exact mjGo.ret 1 (fun _ => rfl) rfl
theorem c_xSz50 (d : Nat) {e p : Nat} {g : Nat → Int32} {I : Nat → Nat → Int32} {X : MX} (he : e < 8) (hg : gOf I e g) (hp : p < 990) : mjEv (d + 3) nyX11_sizeOfPart [.ref (27 + 2 * e), .int (nI p), .int 50] (mjH I X) (.inl (some (.int (nI (szP g 50 p))))) (mjH I X) := by
  refine mjEv.of ?_
  show mjGo (d + 3) nyX11_sizeOfPart 0 ([some (.ref (27 + 2 * e)), some (.int (nI p)), some (.int 50)], [], mjH I X) _
  refine mjGo.run 11 (pc' := 18) (F' := ([some (.ref (27 + 2 * e)), some (.int (nI p)), some (.int 50)], [.int (50 - 48), .int (nI p), .ref (27 + 2 * e)], mjH I X)) (fun _ => rfl) ?_
  refine mjGo.run 0 (pc' := 18) (F' := ([some (.ref (27 + 2 * e)), some (.int (nI p)), some (.int 50)], [.int (50 - 48), .int (nI p), .ref (27 + 2 * e)], mjH I X)) (fun _ => rfl) ?_
  rw [show (50 - 48) = (nI 2) from rfl]
  refine mjGo.call (n := 3) (j := 81) (nx := 21) (o := some (.int (nI (nDg g 2 p)))) (h' := mjH I X) (fun _ => rfl) (c_xDgs d (m := 2) (X := X) he hg (by omega)) ?_
  show mjGo _ _ 21 ([some (.ref (27 + 2 * e)), some (.int (nI p)), some (.int 50)], [.int (nI (nDg g 2 p))], mjH I X) _
  exact mjGo.ret 1 (fun _ => rfl) rfl
theorem c_xSz51 (d : Nat) {e p : Nat} {g : Nat → Int32} {I : Nat → Nat → Int32} {X : MX} (he : e < 8) (hg : gOf I e g) (hp : p < 990) : mjEv (d + 3) nyX11_sizeOfPart [.ref (27 + 2 * e), .int (nI p), .int 51] (mjH I X) (.inl (some (.int (nI (szP g 51 p))))) (mjH I X) := by
  refine mjEv.of ?_
  show mjGo (d + 3) nyX11_sizeOfPart 0 ([some (.ref (27 + 2 * e)), some (.int (nI p)), some (.int 51)], [], mjH I X) _
  refine mjGo.run 11 (pc' := 18) (F' := ([some (.ref (27 + 2 * e)), some (.int (nI p)), some (.int 51)], [.int (51 - 48), .int (nI p), .ref (27 + 2 * e)], mjH I X)) (fun _ => rfl) ?_
  refine mjGo.run 0 (pc' := 18) (F' := ([some (.ref (27 + 2 * e)), some (.int (nI p)), some (.int 51)], [.int (51 - 48), .int (nI p), .ref (27 + 2 * e)], mjH I X)) (fun _ => rfl) ?_
  rw [show (51 - 48) = (nI 3) from rfl]
  refine mjGo.call (n := 3) (j := 81) (nx := 21) (o := some (.int (nI (nDg g 3 p)))) (h' := mjH I X) (fun _ => rfl) (c_xDgs d (m := 3) (X := X) he hg (by omega)) ?_
  show mjGo _ _ 21 ([some (.ref (27 + 2 * e)), some (.int (nI p)), some (.int 51)], [.int (nI (nDg g 3 p))], mjH I X) _
  exact mjGo.ret 1 (fun _ => rfl) rfl
theorem c_xSz43 (d : Nat) {e p : Nat} {g : Nat → Int32} {I : Nat → Nat → Int32} {X : MX} (he : e < 8) (hg : gOf I e g) (hp : p < 990) : mjEv (d + 3) nyX11_sizeOfPart [.ref (27 + 2 * e), .int (nI p), .int 43] (mjH I X) (.inl (some (.int (nI (szP g 43 p))))) (mjH I X) := by
  refine mjEv.of ?_
  show mjGo (d + 3) nyX11_sizeOfPart 0 ([some (.ref (27 + 2 * e)), some (.int (nI p)), some (.int 43)], [], mjH I X) _
  refine mjGo.run 8 (pc' := 30) (F' := ([some (.ref (27 + 2 * e)), some (.int (nI p)), some (.int 43)], [.int (nI p), .ref (27 + 2 * e)], mjH I X)) (fun _ => rfl) ?_
  refine mjGo.call (n := 2) (j := 82) (nx := 33) (o := some (.int (sgV g p))) (h' := mjH I X) (fun _ => rfl) (c_xSgn d (X := X) he hg (by omega)) ?_
  show mjGo _ _ 33 ([some (.ref (27 + 2 * e)), some (.int (nI p)), some (.int 43)], [.int (sgV g p)], mjH I X) _
  refine mjGo.run 1 (pc' := (bif decide ((sgV g p) ≠ 0) then 40 else 36)) (F' := ([some (.ref (27 + 2 * e)), some (.int (nI p)), some (.int 43)], [], mjH I X)) (fun _ => rfl) ?_
  refine mjGo.br (fun q1 => ?_) (fun q1 => ?_)
  · show mjGo _ _ 40 _ _
    rw [show szP g 43 p = 1 from if_neg q1]
    exact mjGo.ret 2 (fun _ => rfl) rfl
  · show mjGo _ _ 36 _ _
    rw [show szP g 43 p = 0 from if_pos (Decidable.not_not.mp q1)]
    exact mjGo.ret 3 (fun _ => rfl) rfl
theorem c_xSz32 (d : Nat) {e p : Nat} {g : Nat → Int32} {I : Nat → Nat → Int32} {X : MX} (he : e < 8) (hg : gOf I e g) (hp : p < 990) : mjEv (d + 3) nyX11_sizeOfPart [.ref (27 + 2 * e), .int (nI p), .int 32] (mjH I X) (.inl (some (.int (nI (szP g 32 p))))) (mjH I X) := by
  refine mjEv.of ?_
  show mjGo (d + 3) nyX11_sizeOfPart 0 ([some (.ref (27 + 2 * e)), some (.int (nI p)), some (.int 32)], [], mjH I X) _
  refine mjGo.run 8 (pc' := 44) (F' := ([some (.ref (27 + 2 * e)), some (.int (nI p)), some (.int 32)], [.int (nI p), .ref (27 + 2 * e)], mjH I X)) (fun _ => rfl) ?_
  refine mjGo.callL (o := some (.int (g p))) (h' := mjH I X) (nx := 47) rfl rfl rfl ((row_N he).1) ⟨_, row_lk he, (by have q9 := c_xVal (d + 1) (I := I) (X := X) e (nI p) he; rw [hg p (by omega)] at q9; exact q9)⟩ ?_
  show mjGo _ _ 47 ([some (.ref (27 + 2 * e)), some (.int (nI p)), some (.int 32)], [.int (g p)], mjH I X) _
  refine mjGo.run 2 (pc' := (bif decide ((g p) ≠ 32) then 55 else 51)) (F' := ([some (.ref (27 + 2 * e)), some (.int (nI p)), some (.int 32)], [], mjH I X)) (fun _ => rfl) ?_
  refine mjGo.br (fun q1 => ?_) (fun q1 => ?_)
  · show mjGo _ _ 55 _ _
    rw [show szP g 32 p = 0 from if_neg q1]
    exact mjGo.ret 2 (fun _ => rfl) rfl
  · show mjGo _ _ 51 _ _
    rw [show szP g 32 p = 1 from if_pos (Decidable.not_not.mp q1)]
    exact mjGo.ret 3 (fun _ => rfl) rfl
theorem c_xSz59 (d : Nat) {e p : Nat} {g : Nat → Int32} {I : Nat → Nat → Int32} {X : MX} (he : e < 8) (hg : gOf I e g) (hp : p < 990) : mjEv (d + 3) nyX11_sizeOfPart [.ref (27 + 2 * e), .int (nI p), .int 59] (mjH I X) (.inl (some (.int (nI (szP g 59 p))))) (mjH I X) := by
  refine mjEv.of ?_
  show mjGo (d + 3) nyX11_sizeOfPart 0 ([some (.ref (27 + 2 * e)), some (.int (nI p)), some (.int 59)], [], mjH I X) _
  refine mjGo.run 11 (pc' := 44) (F' := ([some (.ref (27 + 2 * e)), some (.int (nI p)), some (.int 59)], [.int (nI p), .ref (27 + 2 * e)], mjH I X)) (fun _ => rfl) ?_
  refine mjGo.callL (o := some (.int (g p))) (h' := mjH I X) (nx := 47) rfl rfl rfl ((row_N he).1) ⟨_, row_lk he, (by have q9 := c_xVal (d + 1) (I := I) (X := X) e (nI p) he; rw [hg p (by omega)] at q9; exact q9)⟩ ?_
  show mjGo _ _ 47 ([some (.ref (27 + 2 * e)), some (.int (nI p)), some (.int 59)], [.int (g p)], mjH I X) _
  refine mjGo.run 2 (pc' := (bif decide ((g p) ≠ 59) then 55 else 51)) (F' := ([some (.ref (27 + 2 * e)), some (.int (nI p)), some (.int 59)], [], mjH I X)) (fun _ => rfl) ?_
  refine mjGo.br (fun q1 => ?_) (fun q1 => ?_)
  · show mjGo _ _ 55 _ _
    rw [show szP g 59 p = 0 from if_neg q1]
    exact mjGo.ret 2 (fun _ => rfl) rfl
  · show mjGo _ _ 51 _ _
    rw [show szP g 59 p = 1 from if_pos (Decidable.not_not.mp q1)]
    exact mjGo.ret 3 (fun _ => rfl) rfl
