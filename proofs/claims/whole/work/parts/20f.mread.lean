/-! texts: the reference reads -/
def scp (k j : Nat) : Bool := k == 43 && (j == 29 || j == 30)
theorem mjU_U {α : Type} {f : Nat → Nat → α} {k j : Nat} {a b : α} : mjU (mjU f k j a) k j b = mjU f k j b := by
  funext x y
  unfold mjU
  by_cases h : x = k
  · rw [if_pos h, if_pos h, if_pos h]
    by_cases w : y = j
    · rw [if_pos w, if_pos w]
    · rw [if_neg w, if_neg w, if_neg w]
  · rw [if_neg h, if_neg h, if_neg h]
theorem nDg_0 {g : Nat → Int32} {m p : Nat} (hm : 1 ≤ m) : nDg g m p = 0 ↔ dgt (g p) = false := by
  unfold nDg
  by_cases h : g p = 48
  · rw [if_pos h, h]
    decide
  · rw [if_neg h]
    match m, hm with
    | m + 1, _ =>
      rw [cntD]
      cases dgt (g p)
      · rw [if_neg (by decide)]
        exact ⟨fun _ => rfl, fun _ => rfl⟩
      · rw [if_pos rfl]
        exact ⟨fun h => absurd h (by omega), fun h => absurd h (by decide)⟩
theorem szC_0 {g : Nat → Int32} {c p : Nat} (h : c = 32 ∨ c = 59) : szP g c p = 0 ↔ ¬ g p = nI c := by
  rcases h with rfl | rfl
  · show (if g p = nI 32 then 1 else 0) = 0 ↔ _
    by_cases w : g p = nI 32
    · rw [if_pos w]
      exact ⟨fun h => absurd h (by decide), fun h => absurd w h⟩
    · rw [if_neg w]
      exact ⟨fun _ => w, fun _ => rfl⟩
  · show (if g p = nI 59 then 1 else 0) = 0 ↔ _
    by_cases w : g p = nI 59
    · rw [if_pos w]
      exact ⟨fun h => absurd h (by decide), fun h => absurd w h⟩
    · rw [if_neg w]
      exact ⟨fun _ => w, fun _ => rfl⟩
theorem szC_1 {g : Nat → Int32} {c p : Nat} (h : c = 32 ∨ c = 59) (h2 : ¬ szP g c p = 0) : szP g c p = 1 := by
  rcases h with rfl | rfl
  · show (if g p = nI 32 then 1 else 0) = 1
    exact if_pos (Decidable.not_not.mp (fun w => h2 ((szC_0 (Or.inl rfl)).mpr w)))
  · show (if g p = nI 59 then 1 else 0) = 1
    exact if_pos (Decidable.not_not.mp (fun w => h2 ((szC_0 (Or.inr rfl)).mpr w)))
theorem szS_45 {g : Nat → Int32} {p : Nat} (h : g p = 45) : szP g 43 p = 1 ∧ sgV g p = -1 := by
  have e : sgV g p = -1 := by
    unfold sgV
    rw [h]
    decide
  refine ⟨?_, e⟩
  show (if sgV g p = 0 then 0 else 1) = 1
  rw [e]
  decide
theorem szS_43 {g : Nat → Int32} {p : Nat} (h : g p = 43) : szP g 43 p = 1 ∧ sgV g p = 1 := by
  have e : sgV g p = 1 := by
    unfold sgV
    rw [h]
    decide
  refine ⟨?_, e⟩
  show (if sgV g p = 0 then 0 else 1) = 1
  rw [e]
  decide
theorem szS_0 {g : Nat → Int32} {p : Nat} (h : ¬ g p = 45) (h2 : ¬ g p = 43) : szP g 43 p = 0 := by
  show (if sgV g p = 0 then 0 else 1) = 0
  rw [show sgV g p = 0 by unfold sgV; rw [if_neg h2, if_neg h], if_pos rfl]
theorem vlD_1 {g : Nat → Int32} {p : Nat} : vlP g 49 p = nI (numD g (nDg g 1 p) p 0) := vlP_n (by decide)
theorem vlD_2 {g : Nat → Int32} {p : Nat} : vlP g 50 p = nI (numD g (nDg g 2 p) p 0) := vlP_n (by decide)
theorem vlD_3 {g : Nat → Int32} {p : Nat} : vlP g 51 p = nI (numD g (nDg g 3 p) p 0) := vlP_n (by decide)
theorem num_m {v n : Nat} : ((10 * nI v) + nI (n + 48)) - 48 = nI (10 * v + n) := by
  rw [add48, show (10 : Int32) = nI 10 from rfl, nI_mul, nI_add]
theorem num_1 {n : Nat} : nI (n + 48) - 48 = nI n := by
  rw [← nI_add]
  exact Int32.add_sub_cancel _ _
theorem c_mDig {d e sz p : Nat} {g : Nat → Int32} {I : Nat → Nat → Int32} {X : MX} (he : e < 8) (hs : sz ≤ 100) (hf : I 43 27 = nI (100 * e)) (ht : I 43 28 = nI sz) (gm : ∀ q, q < sz → I 69 (100 * e + q) = g q) (g0 : ∀ q, sz ≤ q → g q = 0) (hp : I 43 29 = nI p) (hp9 : p < 1000) : mjEv d nyX12_isDigit [.ref 43] (mjH I X) (.inl (some (.int (bI (dgt (g p)))))) (mjH I X) := by
  refine mjEv.of ?_
  show mjGo d nyX12_isDigit 0 ([some (.ref 43)], [], mjH I X) _
  by_cases h9 : sz ≤ p
  · refine mjGo.run 4 (pc' := 8) (F' := ([some (.ref 43)], [.int (I 43 28), .int (I 43 29)], mjH I X)) (fun _ => rfl) ?_
    refine mjGo.run 1 (pc' := (bif decide ((I 43 28) ≤ (I 43 29)) then 53 else 11)) (F' := ([some (.ref 43)], [], mjH I X)) (fun _ => rfl) ?_
    refine mjGo.brT (show (I 43 28) ≤ (I 43 29) by rw [hp, ht, nI_leI (by omega) (by omega)]; omega) ?_
    show mjGo _ _ 53 _ _
    rw [g0 p h9]
    exact mjGo.ret 2 (fun _ => rfl) rfl
  · refine mjGo.run 4 (pc' := 8) (F' := ([some (.ref 43)], [.int (I 43 28), .int (I 43 29)], mjH I X)) (fun _ => rfl) ?_
    refine mjGo.run 1 (pc' := (bif decide ((I 43 28) ≤ (I 43 29)) then 53 else 11)) (F' := ([some (.ref 43)], [], mjH I X)) (fun _ => rfl) ?_
    refine mjGo.brF (show ¬ (I 43 28) ≤ (I 43 29) by rw [hp, ht, nI_leI (by omega) (by omega)]; omega) ?_
    show mjGo _ _ 11 _ _
    refine mjGo.run 7 (pc' := 24) (F' := ([some (.ref 43)], [.int ((I 43 27) + (I 43 29)), .ref 69], mjH I X)) (fun _ => rfl) ?_
    refine mjGo.run 0 (pc' := 24) (F' := ([some (.ref 43)], [.int ((I 43 27) + (I 43 29)), .ref 69], mjH I X)) (fun _ => rfl) ?_
    rw [show ((I 43 27) + (I 43 29)) = (nI (100 * e + p)) from by rw [hf, hp, nI_add]]
    refine mjGo.op (pc' := 25) (F' := ([some (.ref 43)], [.int (I 69 (100 * e + p))], mjH I X)) (o := mjiald 25) rfl (fun _ => mjald_n (n := 800) (by omega) (by decide) (rfl) (rfl)) ?_
    refine mjGo.run 2 (pc' := (bif decide ((I 69 (100 * e + p)) < 48) then 53 else 30)) (F' := ([some (.ref 43)], [], mjH I X)) (fun _ => rfl) ?_
    refine mjGo.br (fun q1 => ?_) (fun q1 => ?_)
    · show mjGo _ _ 53 _ _
      have e9 : dgt (g p) = false := by
        rw [← gm p (by omega)]
        unfold dgt
        rw [decide_eq_true q1]
        rfl
      rw [e9]
      exact mjGo.ret 2 (fun _ => rfl) rfl
    · show mjGo _ _ 30 _ _
      refine mjGo.run 7 (pc' := 43) (F' := ([some (.ref 43)], [.int ((I 43 27) + (I 43 29)), .ref 69], mjH I X)) (fun _ => rfl) ?_
      refine mjGo.run 0 (pc' := 43) (F' := ([some (.ref 43)], [.int ((I 43 27) + (I 43 29)), .ref 69], mjH I X)) (fun _ => rfl) ?_
      rw [show ((I 43 27) + (I 43 29)) = (nI (100 * e + p)) from by rw [hf, hp, nI_add]]
      refine mjGo.op (pc' := 44) (F' := ([some (.ref 43)], [.int (I 69 (100 * e + p))], mjH I X)) (o := mjiald 44) rfl (fun _ => mjald_n (n := 800) (by omega) (by decide) (rfl) (rfl)) ?_
      refine mjGo.run 2 (pc' := (bif decide (57 < (I 69 (100 * e + p))) then 53 else 49)) (F' := ([some (.ref 43)], [], mjH I X)) (fun _ => rfl) ?_
      refine mjGo.br (fun q2 => ?_) (fun q2 => ?_)
      · show mjGo _ _ 53 _ _
        have e9 : dgt (g p) = false := by
          rw [← gm p (by omega)]
          unfold dgt
          rw [decide_eq_true q2, Bool.not_true, Bool.and_false]
        rw [e9]
        exact mjGo.ret 2 (fun _ => rfl) rfl
      · show mjGo _ _ 49 _ _
        have e9 : dgt (g p) = true := by
          rw [← gm p (by omega)]
          unfold dgt
          rw [decide_eq_false q1, decide_eq_false q2]
          rfl
        rw [e9]
        exact mjGo.ret 3 (fun _ => rfl) rfl
theorem c_mCm {d e sz p : Nat} {g : Nat → Int32} {I : Nat → Nat → Int32} {X : MX} (he : e < 8) (hs : sz ≤ 100) (hf : I 43 27 = nI (100 * e)) (ht : I 43 28 = nI sz) (gm : ∀ q, q < sz → I 69 (100 * e + q) = g q) (g0 : ∀ q, sz ≤ q → g q = 0) (hp : I 43 29 = nI p) (hp9 : p < 1000) {v : Int32} (hv : v ≠ 0) : mjEv d nyX12_comes_ [.ref 43, .int v] (mjH I X) (.inl (some (.int (bI (decide (g p = v)))))) (mjH I X) := by
  refine mjEv.of ?_
  show mjGo d nyX12_comes_ 0 ([some (.ref 43), some (.int v)], [], mjH I X) _
  by_cases h9 : sz ≤ p
  · refine mjGo.run 4 (pc' := 8) (F' := ([some (.ref 43), some (.int v)], [.int (I 43 28), .int (I 43 29)], mjH I X)) (fun _ => rfl) ?_
    refine mjGo.run 1 (pc' := (bif decide ((I 43 28) ≤ (I 43 29)) then 33 else 11)) (F' := ([some (.ref 43), some (.int v)], [], mjH I X)) (fun _ => rfl) ?_
    refine mjGo.brT (show (I 43 28) ≤ (I 43 29) by rw [hp, ht, nI_leI (by omega) (by omega)]; omega) ?_
    show mjGo _ _ 33 _ _
    rw [g0 p h9, decide_eq_false (fun q => hv q.symm)]
    exact mjGo.ret 2 (fun _ => rfl) rfl
  · refine mjGo.run 4 (pc' := 8) (F' := ([some (.ref 43), some (.int v)], [.int (I 43 28), .int (I 43 29)], mjH I X)) (fun _ => rfl) ?_
    refine mjGo.run 1 (pc' := (bif decide ((I 43 28) ≤ (I 43 29)) then 33 else 11)) (F' := ([some (.ref 43), some (.int v)], [], mjH I X)) (fun _ => rfl) ?_
    refine mjGo.brF (show ¬ (I 43 28) ≤ (I 43 29) by rw [hp, ht, nI_leI (by omega) (by omega)]; omega) ?_
    show mjGo _ _ 11 _ _
    refine mjGo.run 7 (pc' := 24) (F' := ([some (.ref 43), some (.int v)], [.int ((I 43 27) + (I 43 29)), .ref 69], mjH I X)) (fun _ => rfl) ?_
    refine mjGo.run 0 (pc' := 24) (F' := ([some (.ref 43), some (.int v)], [.int ((I 43 27) + (I 43 29)), .ref 69], mjH I X)) (fun _ => rfl) ?_
    rw [show ((I 43 27) + (I 43 29)) = (nI (100 * e + p)) from by rw [hf, hp, nI_add]]
    refine mjGo.op (pc' := 25) (F' := ([some (.ref 43), some (.int v)], [.int (I 69 (100 * e + p))], mjH I X)) (o := mjiald 25) rfl (fun _ => mjald_n (n := 800) (by omega) (by decide) (rfl) (rfl)) ?_
    refine mjGo.run 2 (pc' := (bif decide ((I 69 (100 * e + p)) ≠ v) then 33 else 29)) (F' := ([some (.ref 43), some (.int v)], [], mjH I X)) (fun _ => rfl) ?_
    refine mjGo.br (fun q1 => ?_) (fun q1 => ?_)
    · show mjGo _ _ 33 _ _
      rw [← gm p (by omega), decide_eq_false q1]
      exact mjGo.ret 2 (fun _ => rfl) rfl
    · show mjGo _ _ 29 _ _
      rw [← gm p (by omega), decide_eq_true (Decidable.not_not.mp q1)]
      exact mjGo.ret 3 (fun _ => rfl) rfl
theorem c_exp0 {d : Nat} {I : Nat → Nat → Int32} {X : MX} {v : Int32} (hb : I 43 30 = 0) : mjEv (d + 1) nyX12_expect [.ref 43, .int v] (mjH I X) (.inl none) (mjH (mjU I 43 30 0) X) := by
  refine mjEv.of ?_
  show mjGo (d + 1) nyX12_expect 0 ([some (.ref 43), some (.int v)], [], mjH I X) _
  refine mjGo.run 2 (pc' := 4) (F' := ([some (.ref 43), some (.int v)], [.int (I 43 30)], mjH I X)) (fun _ => rfl) ?_
  refine mjGo.run 0 (pc' := 4) (F' := ([some (.ref 43), some (.int v)], [.int (I 43 30)], mjH I X)) (fun _ => rfl) ?_
  rw [show (I 43 30) = 0 from hb]
  exact mjGo.ret 5 (fun _ => rfl) rfl
theorem c_expN {d e sz p : Nat} {g : Nat → Int32} {I : Nat → Nat → Int32} {X : MX} (he : e < 8) (hs : sz ≤ 100) (hf : I 43 27 = nI (100 * e)) (ht : I 43 28 = nI sz) (gm : ∀ q, q < sz → I 69 (100 * e + q) = g q) (g0 : ∀ q, sz ≤ q → g q = 0) (hp : I 43 29 = nI p) (hp9 : p < 1000) {v : Int32} (hb : I 43 30 = 1) (hv : v ≠ 0) (hq : ¬ g p = v) : mjEv (d + 1) nyX12_expect [.ref 43, .int v] (mjH I X) (.inl none) (mjH (mjU I 43 30 0) X) := by
  refine mjEv.of ?_
  show mjGo (d + 1) nyX12_expect 0 ([some (.ref 43), some (.int v)], [], mjH I X) _
  refine mjGo.run 2 (pc' := 4) (F' := ([some (.ref 43), some (.int v)], [.int (I 43 30)], mjH I X)) (fun _ => rfl) ?_
  refine mjGo.run 0 (pc' := 4) (F' := ([some (.ref 43), some (.int v)], [.int (I 43 30)], mjH I X)) (fun _ => rfl) ?_
  rw [show (I 43 30) = 1 from hb]
  refine mjGo.run 3 (pc' := 9) (F' := ([some (.ref 43), some (.int v)], [.int v, .ref 43], mjH I X)) (fun _ => rfl) ?_
  refine mjGo.call (n := 2) (j := 179) (nx := 12) (o := some (.int 0)) (h' := mjH I X) (fun _ => rfl) ((by have q9 := c_mCm (d := d) (X := X) he hs hf ht gm g0 hp hp9 hv; rw [decide_eq_false hq] at q9; exact q9)) ?_
  show mjGo _ _ 12 ([some (.ref 43), some (.int v)], [.int 0], mjH I X) _
  exact mjGo.ret 5 (fun _ => rfl) rfl
theorem c_expY {d e sz p : Nat} {g : Nat → Int32} {I : Nat → Nat → Int32} {X : MX} (he : e < 8) (hs : sz ≤ 100) (hf : I 43 27 = nI (100 * e)) (ht : I 43 28 = nI sz) (gm : ∀ q, q < sz → I 69 (100 * e + q) = g q) (g0 : ∀ q, sz ≤ q → g q = 0) (hp : I 43 29 = nI p) (hp9 : p < 1000) {v : Int32} {p2 : Nat} (hb : I 43 30 = 1) (hv : v ≠ 0) (hq : g p = v) (h2 : p2 = p + 1) : mjEv (d + 1) nyX12_expect [.ref 43, .int v] (mjH I X) (.inl none) (mjH (mjU I 43 29 (nI p2)) X) := by
  refine mjEv.of ?_
  show mjGo (d + 1) nyX12_expect 0 ([some (.ref 43), some (.int v)], [], mjH I X) _
  refine mjGo.run 2 (pc' := 4) (F' := ([some (.ref 43), some (.int v)], [.int (I 43 30)], mjH I X)) (fun _ => rfl) ?_
  refine mjGo.run 0 (pc' := 4) (F' := ([some (.ref 43), some (.int v)], [.int (I 43 30)], mjH I X)) (fun _ => rfl) ?_
  rw [show (I 43 30) = 1 from hb]
  refine mjGo.run 3 (pc' := 9) (F' := ([some (.ref 43), some (.int v)], [.int v, .ref 43], mjH I X)) (fun _ => rfl) ?_
  refine mjGo.call (n := 2) (j := 179) (nx := 12) (o := some (.int 1)) (h' := mjH I X) (fun _ => rfl) ((by have q9 := c_mCm (d := d) (X := X) he hs hf ht gm g0 hp hp9 hv; rw [decide_eq_true hq] at q9; exact q9)) ?_
  show mjGo _ _ 12 ([some (.ref 43), some (.int v)], [.int 1], mjH I X) _
  refine mjGo.run 6 (pc' := 22) (F' := ([some (.ref 43), some (.int v)], [.int ((I 43 29) + 1), .ref 43], mjH I X)) (fun _ => rfl) ?_
  refine mjGo.run 0 (pc' := 22) (F' := ([some (.ref 43), some (.int v)], [.int ((I 43 29) + 1), .ref 43], mjH I X)) (fun _ => rfl) ?_
  rw [show ((I 43 29) + 1) = (nI p2) from by rw [hp, nI_1, h2]]
  exact mjGo.ret 3 (fun _ => rfl) rfl
theorem c_fig0 {d m : Nat} {I : Nat → Nat → Int32} {X : MX} (hb : I 43 30 = 0) : mjEv (d + 1) nyX12_figures [.ref 43, .int (nI m)] (mjH I X) (.inl (some (.int 0))) (mjH (mjU I 43 30 0) X) := by
  refine mjEv.of ?_
  show mjGo (d + 1) nyX12_figures 0 ([some (.ref 43), some (.int (nI m)), none, none], [], mjH I X) _
  refine mjGo.run 2 (pc' := 4) (F' := ([some (.ref 43), some (.int (nI m)), none, none], [.int (I 43 30)], mjH I X)) (fun _ => rfl) ?_
  refine mjGo.run 0 (pc' := 4) (F' := ([some (.ref 43), some (.int (nI m)), none, none], [.int (I 43 30)], mjH I X)) (fun _ => rfl) ?_
  rw [show (I 43 30) = 0 from hb]
  exact mjGo.ret 6 (fun _ => rfl) rfl
theorem c_figN {d e sz p : Nat} {g : Nat → Int32} {I : Nat → Nat → Int32} {X : MX} (he : e < 8) (hs : sz ≤ 100) (hf : I 43 27 = nI (100 * e)) (ht : I 43 28 = nI sz) (gm : ∀ q, q < sz → I 69 (100 * e + q) = g q) (g0 : ∀ q, sz ≤ q → g q = 0) (hp : I 43 29 = nI p) (hp9 : p < 1000) {m : Nat} (hb : I 43 30 = 1) (hq : dgt (g p) = false) : mjEv (d + 1) nyX12_figures [.ref 43, .int (nI m)] (mjH I X) (.inl (some (.int 0))) (mjH (mjU I 43 30 0) X) := by
  refine mjEv.of ?_
  show mjGo (d + 1) nyX12_figures 0 ([some (.ref 43), some (.int (nI m)), none, none], [], mjH I X) _
  refine mjGo.run 2 (pc' := 4) (F' := ([some (.ref 43), some (.int (nI m)), none, none], [.int (I 43 30)], mjH I X)) (fun _ => rfl) ?_
  refine mjGo.run 0 (pc' := 4) (F' := ([some (.ref 43), some (.int (nI m)), none, none], [.int (I 43 30)], mjH I X)) (fun _ => rfl) ?_
  rw [show (I 43 30) = 1 from hb]
  refine mjGo.run 2 (pc' := 8) (F' := ([some (.ref 43), some (.int (nI m)), none, none], [.ref 43], mjH I X)) (fun _ => rfl) ?_
  refine mjGo.call (n := 1) (j := 181) (nx := 11) (o := some (.int 0)) (h' := mjH I X) (fun _ => rfl) ((by have q9 := c_mDig (d := d) (X := X) he hs hf ht gm g0 hp hp9; rw [hq] at q9; exact q9)) ?_
  show mjGo _ _ 11 ([some (.ref 43), some (.int (nI m)), none, none], [.int 0], mjH I X) _
  exact mjGo.ret 6 (fun _ => rfl) rfl
theorem m_fg_loop {d e sz p : Nat} {g : Nat → Int32} {I : Nat → Nat → Int32} {X : MX} (he : e < 8) (hs : sz ≤ 100) (hf : I 43 27 = nI (100 * e)) (ht : I 43 28 = nI sz) (gm : ∀ q, q < sz → I 69 (100 * e + q) = g q) (g0 : ∀ q, sz ≤ q → g q = 0) {m : Nat} (hm : m ≤ 3) (hp9 : p + m < 900) : ∀ (k t v : Nat), t + k = m → 0 < v → v < 10 ^ t →
    mjGo (d + 1) nyX12_figures 51 ([some (.ref 43), some (.int (nI m)), some (.int (nI v)), some (.int (nI t))], [], mjH (mjU I 43 29 (nI (p + t))) X) (fun x => x = (.inl (some (.int (nI (numD g (cntD g k (p + t)) (p + t) v)))), mjH (mjU I 43 29 (nI (p + t + cntD g k (p + t)))) X)) := by
  intro k
  induction k with
  | zero =>
    intro t v hk hv hv2
    rw [cntD, numD, Nat.add_zero]
    refine mjGo.run 2 (pc' := 53) (F' := ([some (.ref 43), some (.int (nI m)), some (.int (nI v)), some (.int (nI t))], [.int (nI m), .int (nI t)], mjH (mjU I 43 29 (nI (p + t))) X)) (fun _ => rfl) ?_
    refine mjGo.run 1 (pc' := (bif decide ((nI m) ≤ (nI t)) then 106 else 56)) (F' := ([some (.ref 43), some (.int (nI m)), some (.int (nI v)), some (.int (nI t))], [], mjH (mjU I 43 29 (nI (p + t))) X)) (fun _ => rfl) ?_
    refine mjGo.brT (show (nI m) ≤ (nI t) by rw [nI_leI (by omega) (by omega)]; omega) ?_
    show mjGo _ _ 106 _ _
    exact mjGo.ret 2 (fun _ => rfl) rfl
  | succ k ih =>
    intro t v hk hv hv2
    have hpw : 10 ^ t ≤ 10 ^ 3 := Nat.pow_le_pow_right (by omega) (by omega)
    cases hq : dgt (g (p + t))
    · rw [cntD, hq, if_neg (by decide), numD, Nat.add_zero]
      refine mjGo.run 2 (pc' := 53) (F' := ([some (.ref 43), some (.int (nI m)), some (.int (nI v)), some (.int (nI t))], [.int (nI m), .int (nI t)], mjH (mjU I 43 29 (nI (p + t))) X)) (fun _ => rfl) ?_
      refine mjGo.run 1 (pc' := (bif decide ((nI m) ≤ (nI t)) then 106 else 56)) (F' := ([some (.ref 43), some (.int (nI m)), some (.int (nI v)), some (.int (nI t))], [], mjH (mjU I 43 29 (nI (p + t))) X)) (fun _ => rfl) ?_
      refine mjGo.brF (show ¬ (nI m) ≤ (nI t) by rw [nI_leI (by omega) (by omega)]; omega) ?_
      show mjGo _ _ 56 _ _
      refine mjGo.run 1 (pc' := 57) (F' := ([some (.ref 43), some (.int (nI m)), some (.int (nI v)), some (.int (nI t))], [.int (nI v)], mjH (mjU I 43 29 (nI (p + t))) X)) (fun _ => rfl) ?_
      refine mjGo.run 1 (pc' := (bif decide ((nI v) ≤ 0) then 106 else 60)) (F' := ([some (.ref 43), some (.int (nI m)), some (.int (nI v)), some (.int (nI t))], [], mjH (mjU I 43 29 (nI (p + t))) X)) (fun _ => rfl) ?_
      refine mjGo.brF (by rw [show (0 : Int32) = nI 0 from rfl, nI_leI (by omega) (by omega)]; omega) ?_
      show mjGo _ _ 60 _ _
      refine mjGo.run 1 (pc' := 61) (F' := ([some (.ref 43), some (.int (nI m)), some (.int (nI v)), some (.int (nI t))], [.ref 43], mjH (mjU I 43 29 (nI (p + t))) X)) (fun _ => rfl) ?_
      refine mjGo.call (n := 1) (j := 181) (nx := 64) (o := some (.int 0)) (h' := mjH (mjU I 43 29 (nI (p + t))) X) (fun _ => rfl) ((by have q9 := c_mDig (d := d) (p := p + t) (I := (mjU I 43 29 (nI (p + t)))) (X := X) he hs hf ht gm g0 rfl (by omega); rw [hq] at q9; exact q9)) ?_
      show mjGo _ _ 64 ([some (.ref 43), some (.int (nI m)), some (.int (nI v)), some (.int (nI t))], [.int 0], mjH (mjU I 43 29 (nI (p + t))) X) _
      exact mjGo.ret 3 (fun _ => rfl) rfl
    · have hlt : p + t < sz := g_lt g0 (fun e => by rw [e] at hq; exact absurd hq (by decide))
      have w2 := dgt_n hq
      refine mjGo.run 2 (pc' := 53) (F' := ([some (.ref 43), some (.int (nI m)), some (.int (nI v)), some (.int (nI t))], [.int (nI m), .int (nI t)], mjH (mjU I 43 29 (nI (p + t))) X)) (fun _ => rfl) ?_
      refine mjGo.run 1 (pc' := (bif decide ((nI m) ≤ (nI t)) then 106 else 56)) (F' := ([some (.ref 43), some (.int (nI m)), some (.int (nI v)), some (.int (nI t))], [], mjH (mjU I 43 29 (nI (p + t))) X)) (fun _ => rfl) ?_
      refine mjGo.brF (show ¬ (nI m) ≤ (nI t) by rw [nI_leI (by omega) (by omega)]; omega) ?_
      show mjGo _ _ 56 _ _
      refine mjGo.run 1 (pc' := 57) (F' := ([some (.ref 43), some (.int (nI m)), some (.int (nI v)), some (.int (nI t))], [.int (nI v)], mjH (mjU I 43 29 (nI (p + t))) X)) (fun _ => rfl) ?_
      refine mjGo.run 1 (pc' := (bif decide ((nI v) ≤ 0) then 106 else 60)) (F' := ([some (.ref 43), some (.int (nI m)), some (.int (nI v)), some (.int (nI t))], [], mjH (mjU I 43 29 (nI (p + t))) X)) (fun _ => rfl) ?_
      refine mjGo.brF (by rw [show (0 : Int32) = nI 0 from rfl, nI_leI (by omega) (by omega)]; omega) ?_
      show mjGo _ _ 60 _ _
      refine mjGo.run 1 (pc' := 61) (F' := ([some (.ref 43), some (.int (nI m)), some (.int (nI v)), some (.int (nI t))], [.ref 43], mjH (mjU I 43 29 (nI (p + t))) X)) (fun _ => rfl) ?_
      refine mjGo.call (n := 1) (j := 181) (nx := 64) (o := some (.int 1)) (h' := mjH (mjU I 43 29 (nI (p + t))) X) (fun _ => rfl) ((by have q9 := c_mDig (d := d) (p := p + t) (I := (mjU I 43 29 (nI (p + t)))) (X := X) he hs hf ht gm g0 rfl (by omega); rw [hq] at q9; exact q9)) ?_
      show mjGo _ _ 64 ([some (.ref 43), some (.int (nI m)), some (.int (nI v)), some (.int (nI t))], [.int 1], mjH (mjU I 43 29 (nI (p + t))) X) _
      refine mjGo.run 11 (pc' := 84) (F' := ([some (.ref 43), some (.int (nI m)), some (.int (nI v)), some (.int (nI t))], [.int ((I 43 27) + (nI (p + t))), .ref 69, .int (10 * (nI v))], mjH (mjU I 43 29 (nI (p + t))) X)) (fun _ => rfl) ?_
      refine mjGo.run 0 (pc' := 84) (F' := ([some (.ref 43), some (.int (nI m)), some (.int (nI v)), some (.int (nI t))], [.int ((I 43 27) + (nI (p + t))), .ref 69, .int (10 * (nI v))], mjH (mjU I 43 29 (nI (p + t))) X)) (fun _ => rfl) ?_
      rw [show ((I 43 27) + (nI (p + t))) = (nI (100 * e + (p + t))) from by rw [hf, nI_add]]
      refine mjGo.op (pc' := 85) (F' := ([some (.ref 43), some (.int (nI m)), some (.int (nI v)), some (.int (nI t))], [.int (I 69 (100 * e + (p + t))), .int (10 * (nI v))], mjH (mjU I 43 29 (nI (p + t))) X)) (o := mjiald 85) rfl (fun _ => mjald_n (n := 800) (by omega) (by decide) (rfl) (rfl)) ?_
      refine mjGo.run 3 (pc' := 89) (F' := ([some (.ref 43), some (.int (nI m)), some (.int (nI v)), some (.int (nI t))], [.int (((10 * (nI v)) + (I 69 (100 * e + (p + t)))) - 48)], mjH (mjU I 43 29 (nI (p + t))) X)) (fun _ => rfl) ?_
      refine mjGo.run 0 (pc' := 89) (F' := ([some (.ref 43), some (.int (nI m)), some (.int (nI v)), some (.int (nI t))], [.int (((10 * (nI v)) + (I 69 (100 * e + (p + t)))) - 48)], mjH (mjU I 43 29 (nI (p + t))) X)) (fun _ => rfl) ?_
      rw [show (((10 * (nI v)) + (I 69 (100 * e + (p + t)))) - 48) = (nI (10 * v + dval (g (p + t)))) from (congrArg (fun z => ((10 * nI v) + z) - 48) ((gm (p + t) hlt).trans w2.1)).trans num_m]
      refine mjGo.run 6 (pc' := 97) (F' := ([some (.ref 43), some (.int (nI m)), some (.int (nI (10 * v + dval (g (p + t))))), some (.int (nI t))], [.int ((nI (p + t)) + 1), .ref 43], mjH (mjU I 43 29 (nI (p + t))) X)) (fun _ => rfl) ?_
      refine mjGo.run 0 (pc' := 97) (F' := ([some (.ref 43), some (.int (nI m)), some (.int (nI (10 * v + dval (g (p + t))))), some (.int (nI t))], [.int ((nI (p + t)) + 1), .ref 43], mjH (mjU I 43 29 (nI (p + t))) X)) (fun _ => rfl) ?_
      rw [show ((nI (p + t)) + 1) = (nI (p + (t + 1))) from nI_1 (p + t)]
      refine mjGo.run 3 (pc' := 51) (F' := ([some (.ref 43), some (.int (nI m)), some (.int (nI (10 * v + dval (g (p + t))))), some (.int ((nI t) + 1))], [], mjH (mjU (mjU I 43 29 (nI (p + t))) 43 29 (nI (p + (t + 1)))) X)) (fun _ => rfl) ?_
      rw [show mjU (mjU I 43 29 (nI (p + t))) 43 29 (nI (p + (t + 1))) = mjU I 43 29 (nI (p + (t + 1))) from mjU_U]
      have k9 := ih (t + 1) (10 * v + dval (g (p + t))) (by omega) (by omega) (by rw [Nat.pow_succ]; omega)
      rw [← nI_1] at k9
      rw [cntD, hq, if_pos rfl, numD, show p + t + (cntD g k (p + t + 1) + 1) = p + (t + 1) + cntD g k (p + (t + 1)) by rw [show p + (t + 1) = p + t + 1 from rfl]; omega]
      exact k9
theorem c_figY {d e sz p : Nat} {g : Nat → Int32} {I : Nat → Nat → Int32} {X : MX} (he : e < 8) (hs : sz ≤ 100) (hf : I 43 27 = nI (100 * e)) (ht : I 43 28 = nI sz) (gm : ∀ q, q < sz → I 69 (100 * e + q) = g q) (g0 : ∀ q, sz ≤ q → g q = 0) (hp : I 43 29 = nI p) {m p2 : Nat} {v : Int32} (hm : m ≤ 3) (hm1 : 1 ≤ m) (hp9 : p + m < 900) (hb : I 43 30 = 1) (hq : dgt (g p) = true) (hv : v = nI (numD g (nDg g m p) p 0)) (h2 : p2 = p + nDg g m p) : mjEv (d + 1) nyX12_figures [.ref 43, .int (nI m)] (mjH I X) (.inl (some (.int v))) (mjH (mjU I 43 29 (nI p2)) X) := by
  have hlt : p < sz := g_lt g0 (fun e => by rw [e] at hq; exact absurd hq (by decide))
  have w2 := dgt_n hq
  have hp9' : p < 1000 := by omega
  have hcn : cntD g m p = cntD g (m - 1) (p + 1) + 1 := by
    obtain ⟨m9, rfl⟩ : ∃ m9, m = m9 + 1 := ⟨m - 1, by omega⟩
    rw [cntD, hq, if_pos rfl]
    rfl
  refine mjEv.of ?_
  show mjGo (d + 1) nyX12_figures 0 ([some (.ref 43), some (.int (nI m)), none, none], [], mjH I X) _
  refine mjGo.run 2 (pc' := 4) (F' := ([some (.ref 43), some (.int (nI m)), none, none], [.int (I 43 30)], mjH I X)) (fun _ => rfl) ?_
  refine mjGo.run 0 (pc' := 4) (F' := ([some (.ref 43), some (.int (nI m)), none, none], [.int (I 43 30)], mjH I X)) (fun _ => rfl) ?_
  rw [show (I 43 30) = 1 from hb]
  refine mjGo.run 2 (pc' := 8) (F' := ([some (.ref 43), some (.int (nI m)), none, none], [.ref 43], mjH I X)) (fun _ => rfl) ?_
  refine mjGo.call (n := 1) (j := 181) (nx := 11) (o := some (.int 1)) (h' := mjH I X) (fun _ => rfl) ((by have q9 := c_mDig (d := d) (X := X) he hs hf ht gm g0 hp hp9'; rw [hq] at q9; exact q9)) ?_
  show mjGo _ _ 11 ([some (.ref 43), some (.int (nI m)), none, none], [.int 1], mjH I X) _
  refine mjGo.run 8 (pc' := 34) (F' := ([some (.ref 43), some (.int (nI m)), none, none], [.int ((I 43 27) + (I 43 29)), .ref 69], mjH I X)) (fun _ => rfl) ?_
  refine mjGo.run 0 (pc' := 34) (F' := ([some (.ref 43), some (.int (nI m)), none, none], [.int ((I 43 27) + (I 43 29)), .ref 69], mjH I X)) (fun _ => rfl) ?_
  rw [show ((I 43 27) + (I 43 29)) = (nI (100 * e + p)) from by rw [hf, hp, nI_add]]
  refine mjGo.op (pc' := 35) (F' := ([some (.ref 43), some (.int (nI m)), none, none], [.int (I 69 (100 * e + p))], mjH I X)) (o := mjiald 35) rfl (fun _ => mjald_n (n := 800) (by omega) (by decide) (rfl) (rfl)) ?_
  refine mjGo.run 2 (pc' := 38) (F' := ([some (.ref 43), some (.int (nI m)), none, none], [.int ((I 69 (100 * e + p)) - 48)], mjH I X)) (fun _ => rfl) ?_
  refine mjGo.run 0 (pc' := 38) (F' := ([some (.ref 43), some (.int (nI m)), none, none], [.int ((I 69 (100 * e + p)) - 48)], mjH I X)) (fun _ => rfl) ?_
  rw [show ((I 69 (100 * e + p)) - 48) = (nI (dval (g p))) from (congrArg (fun z => z - 48) ((gm p hlt).trans w2.1)).trans num_1]
  refine mjGo.run 6 (pc' := 46) (F' := ([some (.ref 43), some (.int (nI m)), some (.int (nI (dval (g p)))), none], [.int ((I 43 29) + 1), .ref 43], mjH I X)) (fun _ => rfl) ?_
  refine mjGo.run 0 (pc' := 46) (F' := ([some (.ref 43), some (.int (nI m)), some (.int (nI (dval (g p)))), none], [.int ((I 43 29) + 1), .ref 43], mjH I X)) (fun _ => rfl) ?_
  rw [show ((I 43 29) + 1) = (nI (p + 1)) from by rw [hp, nI_1]]
  refine mjGo.run 3 (pc' := 51) (F' := ([some (.ref 43), some (.int (nI m)), some (.int (nI (dval (g p)))), some (.int 1)], [], mjH (mjU I 43 29 (nI (p + 1))) X)) (fun _ => rfl) ?_
  by_cases h48 : g p = 48
  · have e0 : dval (g p) = 0 := by rw [h48]; decide
    rw [show nDg g m p = 1 by unfold nDg; rw [if_pos h48]] at hv h2
    rw [hv, h2, numD, numD, e0]
    refine mjGo.run 3 (pc' := (bif decide ((nI m) ≤ 1) then 106 else 56)) (F' := ([some (.ref 43), some (.int (nI m)), some (.int (nI 0)), some (.int 1)], [], mjH (mjU I 43 29 (nI (p + 1))) X)) (fun _ => rfl) ?_
    refine mjGo.br (fun q1 => ?_) (fun q1 => ?_)
    · show mjGo _ _ 106 _ _
      exact mjGo.ret 2 (fun _ => rfl) rfl
    · show mjGo _ _ 56 _ _
      refine mjGo.run 1 (pc' := 57) (F' := ([some (.ref 43), some (.int (nI m)), some (.int (nI 0)), some (.int 1)], [.int (nI 0)], mjH (mjU I 43 29 (nI (p + 1))) X)) (fun _ => rfl) ?_
      refine mjGo.run 1 (pc' := (bif decide ((nI 0) ≤ 0) then 106 else 60)) (F' := ([some (.ref 43), some (.int (nI m)), some (.int (nI 0)), some (.int 1)], [], mjH (mjU I 43 29 (nI (p + 1))) X)) (fun _ => rfl) ?_
      refine mjGo.brT (by decide) ?_
      show mjGo _ _ 106 _ _
      exact mjGo.ret 2 (fun _ => rfl) rfl
  · have hv0 : 0 < dval (g p) := by
      refine Nat.pos_of_ne_zero fun e0 => h48 ?_
      rw [w2.1, e0]
      rfl
    have k9 := m_fg_loop (d := d) (p := p) (X := X) he hs hf ht gm g0 hm hp9 (m - 1) 1 (dval (g p)) (by omega) hv0 (by omega)
    rw [show nDg g m p = cntD g (m - 1) (p + 1) + 1 by unfold nDg; rw [if_neg h48]; exact hcn] at hv h2
    rw [hv, h2, numD, Nat.mul_zero, Nat.zero_add, show p + (cntD g (m - 1) (p + 1) + 1) = p + 1 + cntD g (m - 1) (p + 1) by omega]
    exact k9
