/-! texts: the first wrong byte -/
def isPt (c : Nat) : Prop := c = 49 ∨ c = 50 ∨ c = 51 ∨ c = 43 ∨ c = 32 ∨ c = 59
theorem g_lt {g : Nat → Int32} {sz p : Nat} (g0 : ∀ q, sz ≤ q → g q = 0) (h : g p ≠ 0) : p < sz := by
  refine Nat.lt_of_not_le fun w => h (g0 p w)
theorem cntD_in {g : Nat → Int32} {sz : Nat} (g0 : ∀ q, sz ≤ q → g q = 0) : ∀ (m p : Nat), p ≤ sz → p + cntD g m p ≤ sz
  | 0, _, h => h
  | m + 1, p, h => by
    rw [cntD]
    by_cases w : dgt (g p) = true
    · rw [if_pos w]
      have h1 : g p ≠ 0 := fun e => by rw [e] at w; exact absurd w (by decide)
      have := cntD_in g0 m (p + 1) (g_lt g0 h1)
      omega
    · rw [if_neg w]
      exact h
theorem nDg_in {g : Nat → Int32} {sz m p : Nat} (g0 : ∀ q, sz ≤ q → g q = 0) (h : p ≤ sz) : p + nDg g m p ≤ sz := by
  unfold nDg
  by_cases w : g p = 48
  · rw [if_pos w]
    exact g_lt g0 (by rw [w]; decide)
  · rw [if_neg w]
    exact cntD_in g0 m p h
theorem szP_in {g : Nat → Int32} {sz c p : Nat} (g0 : ∀ q, sz ≤ q → g q = 0) (hc : isPt c) (h : p ≤ sz) : p + szP g c p ≤ sz := by
  have hd : ∀ (v : Int32), v ≠ 0 → g p = v → p + 1 ≤ sz := fun v hv e => g_lt g0 (by rw [e]; exact hv)
  rcases hc with rfl | rfl | rfl | rfl | rfl | rfl
  · exact nDg_in g0 h
  · exact nDg_in g0 h
  · exact nDg_in g0 h
  · show p + (if sgV g p = 0 then 0 else 1) ≤ sz
    by_cases w : sgV g p = 0
    · rw [if_pos w]
      exact h
    · rw [if_neg w]
      refine g_lt g0 fun e => w ?_
      unfold sgV
      rw [e]
      decide
  · show p + (if g p = nI 32 then 1 else 0) ≤ sz
    by_cases w : g p = nI 32
    · rw [if_pos w]
      exact hd _ (by decide) w
    · rw [if_neg w]
      exact h
  · show p + (if g p = nI 59 then 1 else 0) ≤ sz
    by_cases w : g p = nI 59
    · rw [if_pos w]
      exact hd _ (by decide) w
    · rw [if_neg w]
      exact h
theorem rdE_in {g : Nat → Int32} {sz : Nat} (g0 : ∀ q, sz ≤ q → g q = 0) : ∀ (cs : List Nat) (p : Nat), (∀ c, c ∈ cs → isPt c) → p ≤ sz → (rdE g cs p).1 ≤ sz
  | [], _, _, h => h
  | c :: cs, p, hc, h => by
    rw [rdE]
    by_cases w : szP g c p = 0
    · rw [if_pos w]
      exact h
    · rw [if_neg w]
      exact rdE_in g0 cs _ (fun c9 h9 => hc c9 (List.mem_cons_of_mem _ h9)) (szP_in g0 (hc c (List.mem_cons_self ..)) h)
theorem rdE_adv {g : Nat → Int32} : ∀ (cs : List Nat) (p : Nat), (rdE g cs p).2 = true → p + cs.length ≤ (rdE g cs p).1
  | [], _, _ => Nat.le_refl _
  | c :: cs, p, h => by
    rw [rdE] at h ⊢
    by_cases w : szP g c p = 0
    · rw [if_pos w] at h
      cases h
    · rw [if_neg w] at h ⊢
      have := rdE_adv cs _ h
      rw [List.length_cons]
      omega
theorem lfm_pt {l : Int32} : ∀ c, c ∈ lfm l → isPt c := by
  unfold lfm isPt
  repeat' split
  all_goals (intro c hc; first | (simp at hc; done) | (simp at hc; omega))
theorem lfm_0 : lfm 0 = [] := rfl
theorem stE_in {g : Nat → Int32} {sz p : Nat} (g0 : ∀ q, sz ≤ q → g q = 0) (h : p ≤ sz) : (stE g p).1 ≤ sz ∧ ((stE g p).2 = true → p + 2 ≤ (stE g p).1) := by
  unfold stE
  by_cases w : lfm (g p) = []
  · rw [if_pos w]
    exact ⟨h, fun w => by cases w⟩
  · rw [if_neg w]
    have h1 : p + 1 ≤ sz := g_lt g0 fun e => w (by rw [e]; rfl)
    refine ⟨rdE_in g0 _ _ lfm_pt h1, fun h2 => ?_⟩
    have := rdE_adv _ _ h2
    have h3 : 1 ≤ (lfm (g p)).length := by
      cases h4 : lfm (g p)
      · exact absurd h4 w
      · rw [List.length_cons]; omega
    omega
def syn (g : Nat → Int32) (sz : Nat) : Nat → Nat → Nat → Option Nat × Nat
  | 0, _, n => (none, n)
  | k + 1, p, n => if (stE g p).2 = true then (if (stE g p).1 < sz then syn g sz k (stE g p).1 (n + 1) else (none, n + 1)) else (some (stE g p).1, n)
theorem neg1 {w : Nat} (h : w < 2 ^ 31) : ((-1 : Int32) - nI w).toInt = -1 - w := by
  have e : (-1 : Int32).toInt = -1 := by decide
  rw [i32_sub (by rw [nI_toInt h, e]; omega) (by rw [nI_toInt h, e]; omega), nI_toInt h, e]
theorem neg1_lt {w : Nat} (h : w < 2 ^ 31) : ¬ (0 : Int32) ≤ -1 - nI w := by
  have e0 : (0 : Int32).toInt = 0 := by decide
  rw [i32_le, neg1 h, e0]
  omega
theorem neg1_neg {w : Nat} (h : w < 2 ^ 31) : (-1 : Int32) - (-1 - nI w) = nI w := by
  have e : (-1 : Int32).toInt = -1 := by decide
  apply Int32.toInt_inj.mp
  rw [i32_sub (by rw [neg1 h, e]; omega) (by rw [neg1 h, e]; omega), neg1 h, e, nI_toInt h]
  omega
theorem x_fw_end {d p n : Nat} {o4 : Option Value} {e sz : Nat} {I : Nat → Nat → Int32} {X : MX} (he : e < 8) (hz : I (27 + 2 * e) 2 = nI sz) (hs : sz ≤ 100) (hp : sz ≤ p) (hp2 : p < 1000) (hn : n ≠ 0) (hn2 : n < 1000) : mjGo d nyX11_firstWrongByte 4 ([some (.ref 0), some (.ref (27 + 2 * e)), some (.int (nI p)), some (.int (nI n)), o4], [], mjH I X) (fun x => x = (.inl (some (.int (-1))), mjH I X)) := by
  by_cases h9 : 100 ≤ n
  · refine mjGo.run 2 (pc' := 7) (F' := ([some (.ref 0), some (.ref (27 + 2 * e)), some (.int (nI p)), some (.int (nI n)), o4], [.int 100, .int (nI n)], mjH I X)) (fun _ => rfl) ?_
    refine mjGo.run 1 (pc' := (bif decide (100 ≤ (nI n)) then 49 else 10)) (F' := ([some (.ref 0), some (.ref (27 + 2 * e)), some (.int (nI p)), some (.int (nI n)), o4], [], mjH I X)) (fun _ => rfl) ?_
    refine mjGo.brT (show 100 ≤ (nI n) by rw [show (100 : Int32) = nI 100 from rfl, nI_leI (by omega) (by omega)]; omega) ?_
    show mjGo _ _ 49 _ _
    exact mjGo.ret 2 (fun _ => rfl) rfl
  · refine mjGo.run 2 (pc' := 7) (F' := ([some (.ref 0), some (.ref (27 + 2 * e)), some (.int (nI p)), some (.int (nI n)), o4], [.int 100, .int (nI n)], mjH I X)) (fun _ => rfl) ?_
    refine mjGo.run 1 (pc' := (bif decide (100 ≤ (nI n)) then 49 else 10)) (F' := ([some (.ref 0), some (.ref (27 + 2 * e)), some (.int (nI p)), some (.int (nI n)), o4], [], mjH I X)) (fun _ => rfl) ?_
    refine mjGo.brF (show ¬ 100 ≤ (nI n) by rw [show (100 : Int32) = nI 100 from rfl, nI_leI (by omega) (by omega)]; omega) ?_
    show mjGo _ _ 10 _ _
    refine mjGo.run 1 (pc' := 11) (F' := ([some (.ref 0), some (.ref (27 + 2 * e)), some (.int (nI p)), some (.int (nI n)), o4], [.int (nI n)], mjH I X)) (fun _ => rfl) ?_
    refine mjGo.run 1 (pc' := (bif decide ((nI n) = 0) then 22 else 14)) (F' := ([some (.ref 0), some (.ref (27 + 2 * e)), some (.int (nI p)), some (.int (nI n)), o4], [], mjH I X)) (fun _ => rfl) ?_
    refine mjGo.brF (by rw [show (0 : Int32) = nI 0 from rfl, nI_eq (by omega) (by omega)]; exact hn) ?_
    show mjGo _ _ 14 _ _
    refine mjGo.run 2 (pc' := 16) (F' := ([some (.ref 0), some (.ref (27 + 2 * e)), some (.int (nI p)), some (.int (nI n)), o4], [.ref (27 + 2 * e), .int (nI p)], mjH I X)) (fun _ => rfl) ?_
    refine mjGo.op (pc' := 19) (F' := ([some (.ref 0), some (.ref (27 + 2 * e)), some (.int (nI p)), some (.int (nI n)), o4], [.int (I (27 + 2 * e) 2), .int (nI p)], mjH I X)) (o := mjgetI [6] 2 19) rfl (fun _ => row_getI he) ?_
    refine mjGo.run 1 (pc' := (bif decide ((I (27 + 2 * e) 2) ≤ (nI p)) then 49 else 22)) (F' := ([some (.ref 0), some (.ref (27 + 2 * e)), some (.int (nI p)), some (.int (nI n)), o4], [], mjH I X)) (fun _ => rfl) ?_
    refine mjGo.brT (show (I (27 + 2 * e) 2) ≤ (nI p) by rw [hz, nI_leI (by omega) (by omega)]; omega) ?_
    show mjGo _ _ 49 _ _
    exact mjGo.ret 2 (fun _ => rfl) rfl
def fwA (o : Option Nat) : Int32 := match o with
  | some w => nI w
  | none => -1
theorem x_fw_loop {d : Nat} {I0 : Nat → Nat → Int32} {e sz : Nat} {g : Nat → Int32} {X : MX} (he : e < 8) (hz0 : I0 (27 + 2 * e) 2 = nI sz) (hs : sz ≤ 100) (hg0 : gOf I0 e g) (g0 : ∀ q, sz ≤ q → g q = 0) : ∀ (k p n : Nat) (I : Nat → Nat → Int32) (o4 : Option Value), sz + 1 ≤ p + k → p ≤ sz → 2 * n ≤ p → (n = 0 ∨ p < sz) → (∀ k2, k2 ≠ 22 → I k2 = I0 k2) →
    mjGo (d + 5) nyX11_firstWrongByte 4 ([some (.ref 0), some (.ref (27 + 2 * e)), some (.int (nI p)), some (.int (nI n)), o4], [], mjH I X) (fun x => ∃ J, x = (.inl (some (.int (fwA (syn g sz k p n).1))), mjH J X) ∧ ∀ k2, k2 ≠ 22 → J k2 = I0 k2) := by
  intro k
  induction k with
  | zero => intro p n I o4 h1 h2; omega
  | succ k ih =>
    intro p n I o4 h1 h2 h3 h4 hI
    have hz : I (27 + 2 * e) 2 = nI sz := by rw [hI _ (by omega)]; exact hz0
    have hg : gOf I e g := hg0.cg (hI _ (by omega)) (hI _ (by omega))
    have ⟨hin, hadv⟩ := stE_in g0 h2
    suffices hsuf : mjGo (d + 5) nyX11_firstWrongByte 22 ([some (.ref 0), some (.ref (27 + 2 * e)), some (.int (nI p)), some (.int (nI n)), o4], [], mjH I X) (fun x => ∃ J, x = (.inl (some (.int (fwA (syn g sz (k + 1) p n).1))), mjH J X) ∧ ∀ k2, k2 ≠ 22 → J k2 = I0 k2) by
      by_cases h9 : n = 0
      · subst h9
        refine mjGo.run 2 (pc' := 7) (F' := ([some (.ref 0), some (.ref (27 + 2 * e)), some (.int (nI p)), some (.int (nI 0)), o4], [.int 100, .int (nI 0)], mjH I X)) (fun _ => rfl) ?_
        refine mjGo.run 1 (pc' := (bif decide (100 ≤ (nI 0)) then 49 else 10)) (F' := ([some (.ref 0), some (.ref (27 + 2 * e)), some (.int (nI p)), some (.int (nI 0)), o4], [], mjH I X)) (fun _ => rfl) ?_
        refine mjGo.brF (show ¬ 100 ≤ (nI 0) by rw [show (100 : Int32) = nI 100 from rfl, nI_leI (by omega) (by omega)]; omega) ?_
        show mjGo _ _ 10 _ _
        refine mjGo.run 1 (pc' := 11) (F' := ([some (.ref 0), some (.ref (27 + 2 * e)), some (.int (nI p)), some (.int (nI 0)), o4], [.int (nI 0)], mjH I X)) (fun _ => rfl) ?_
        refine mjGo.run 1 (pc' := (bif decide ((nI 0) = 0) then 22 else 14)) (F' := ([some (.ref 0), some (.ref (27 + 2 * e)), some (.int (nI p)), some (.int (nI 0)), o4], [], mjH I X)) (fun _ => rfl) ?_
        refine mjGo.brT (rfl) ?_
        show mjGo _ _ 22 _ _
        exact hsuf
      · refine mjGo.run 2 (pc' := 7) (F' := ([some (.ref 0), some (.ref (27 + 2 * e)), some (.int (nI p)), some (.int (nI n)), o4], [.int 100, .int (nI n)], mjH I X)) (fun _ => rfl) ?_
        refine mjGo.run 1 (pc' := (bif decide (100 ≤ (nI n)) then 49 else 10)) (F' := ([some (.ref 0), some (.ref (27 + 2 * e)), some (.int (nI p)), some (.int (nI n)), o4], [], mjH I X)) (fun _ => rfl) ?_
        refine mjGo.brF (show ¬ 100 ≤ (nI n) by rw [show (100 : Int32) = nI 100 from rfl, nI_leI (by omega) (by omega)]; omega) ?_
        show mjGo _ _ 10 _ _
        refine mjGo.run 1 (pc' := 11) (F' := ([some (.ref 0), some (.ref (27 + 2 * e)), some (.int (nI p)), some (.int (nI n)), o4], [.int (nI n)], mjH I X)) (fun _ => rfl) ?_
        refine mjGo.run 1 (pc' := (bif decide ((nI n) = 0) then 22 else 14)) (F' := ([some (.ref 0), some (.ref (27 + 2 * e)), some (.int (nI p)), some (.int (nI n)), o4], [], mjH I X)) (fun _ => rfl) ?_
        refine mjGo.brF (by rw [show (0 : Int32) = nI 0 from rfl, nI_eq (by omega) (by omega)]; exact h9) ?_
        show mjGo _ _ 14 _ _
        refine mjGo.run 2 (pc' := 16) (F' := ([some (.ref 0), some (.ref (27 + 2 * e)), some (.int (nI p)), some (.int (nI n)), o4], [.ref (27 + 2 * e), .int (nI p)], mjH I X)) (fun _ => rfl) ?_
        refine mjGo.op (pc' := 19) (F' := ([some (.ref 0), some (.ref (27 + 2 * e)), some (.int (nI p)), some (.int (nI n)), o4], [.int (I (27 + 2 * e) 2), .int (nI p)], mjH I X)) (o := mjgetI [6] 2 19) rfl (fun _ => row_getI he) ?_
        refine mjGo.run 1 (pc' := (bif decide ((I (27 + 2 * e) 2) ≤ (nI p)) then 49 else 22)) (F' := ([some (.ref 0), some (.ref (27 + 2 * e)), some (.int (nI p)), some (.int (nI n)), o4], [], mjH I X)) (fun _ => rfl) ?_
        refine mjGo.brF (show ¬ (I (27 + 2 * e) 2) ≤ (nI p) by rw [hz, nI_leI (by omega) (by omega)]; omega) ?_
        show mjGo _ _ 22 _ _
        exact hsuf
    obtain ⟨o9, h9, hev, J, rfl, hJ, rfl, -⟩ := c_xRd d (X := X) he hg (show p < 900 by omega)
    have hJ0 : ∀ k2, k2 ≠ 22 → J k2 = I0 k2 := fun k2 h => (hJ k2 h).trans (hI k2 h)
    cases hw : (stE g p).2
    · obtain ⟨v9, hv9⟩ : ∃ t, t = (-1 : Int32) - nI (stE g p).1 := ⟨_, rfl⟩
      refine mjGo.run 3 (pc' := 25) (F' := ([some (.ref 0), some (.ref (27 + 2 * e)), some (.int (nI p)), some (.int (nI n)), o4], [.int (nI p), .ref (27 + 2 * e), .ref 0], mjH I X)) (fun _ => rfl) ?_
      refine mjGo.call (n := 3) (j := 85) (nx := 28) (o := some (.int v9)) (h' := mjH J X) (fun _ => rfl) ((by have q9 := hev; unfold rdA at q9; rw [hw, if_neg (by decide), ← hv9] at q9; exact q9)) ?_
      show mjGo _ _ 28 ([some (.ref 0), some (.ref (27 + 2 * e)), some (.int (nI p)), some (.int (nI n)), o4], [.int v9], mjH J X) _
      refine mjGo.run 2 (pc' := 32) (F' := ([some (.ref 0), some (.ref (27 + 2 * e)), some (.int (nI p)), some (.int (nI n)), some (.int v9)], [.int v9], mjH J X)) (fun _ => rfl) ?_
      refine mjGo.run 1 (pc' := (bif decide (0 ≤ v9) then 40 else 35)) (F' := ([some (.ref 0), some (.ref (27 + 2 * e)), some (.int (nI p)), some (.int (nI n)), some (.int v9)], [], mjH J X)) (fun _ => rfl) ?_
      refine mjGo.brF (by rw [hv9]; exact neg1_lt (by omega)) ?_
      show mjGo _ _ 35 _ _
      have e9 : fwA (syn g sz (k + 1) p n).1 = ((-1) - v9) := by rw [syn, hw, if_neg (by decide), hv9]; exact (neg1_neg (by omega)).symm
      rw [e9]
      exact mjGo.ret 4 (fun _ => rfl) ⟨J, rfl, hJ0⟩
    · refine mjGo.run 3 (pc' := 25) (F' := ([some (.ref 0), some (.ref (27 + 2 * e)), some (.int (nI p)), some (.int (nI n)), o4], [.int (nI p), .ref (27 + 2 * e), .ref 0], mjH I X)) (fun _ => rfl) ?_
      refine mjGo.call (n := 3) (j := 85) (nx := 28) (o := some (.int (nI (stE g p).1))) (h' := mjH J X) (fun _ => rfl) ((by have q9 := hev; unfold rdA at q9; rw [hw] at q9; exact q9)) ?_
      show mjGo _ _ 28 ([some (.ref 0), some (.ref (27 + 2 * e)), some (.int (nI p)), some (.int (nI n)), o4], [.int (nI (stE g p).1)], mjH J X) _
      refine mjGo.run 2 (pc' := 32) (F' := ([some (.ref 0), some (.ref (27 + 2 * e)), some (.int (nI p)), some (.int (nI n)), some (.int (nI (stE g p).1))], [.int (nI (stE g p).1)], mjH J X)) (fun _ => rfl) ?_
      refine mjGo.run 1 (pc' := (bif decide (0 ≤ (nI (stE g p).1)) then 40 else 35)) (F' := ([some (.ref 0), some (.ref (27 + 2 * e)), some (.int (nI p)), some (.int (nI n)), some (.int (nI (stE g p).1))], [], mjH J X)) (fun _ => rfl) ?_
      refine mjGo.brT (nI_pos' (by omega)) ?_
      show mjGo _ _ 40 _ _
      refine mjGo.run 4 (pc' := 4) (F' := ([some (.ref 0), some (.ref (27 + 2 * e)), some (.int (nI (stE g p).1)), some (.int ((nI n) + 1)), some (.int (nI (stE g p).1))], [], mjH J X)) (fun _ => rfl) ?_
      have hadv := hadv hw
      by_cases w : (stE g p).1 < sz
      · have k9 := ih (stE g p).1 (n + 1) J (some (.int (nI (stE g p).1))) (by omega) hin (by omega) (Or.inr w) hJ0
        rw [← nI_1] at k9
        rw [syn, hw, if_pos rfl, if_pos w]
        exact k9
      · have k9 := x_fw_end (d := d + 5) (n := n + 1) (o4 := some (.int (nI (stE g p).1))) (X := X) he ((congrFun (hJ0 _ (by omega)) 2).trans hz0) hs (show sz ≤ (stE g p).1 by omega) (by omega) (by omega) (by omega)
        rw [← nI_1] at k9
        rw [syn, hw, if_pos rfl, if_neg w]
        obtain ⟨n9, x, hx, rfl⟩ := k9
        exact ⟨n9, _, hx, J, rfl, hJ0⟩
theorem c_xFw (d : Nat) {I : Nat → Nat → Int32} {e sz : Nat} {g : Nat → Int32} {X : MX} (he : e < 8) (hz : I (27 + 2 * e) 2 = nI sz) (hs : sz ≤ 100) (hg : gOf I e g) (g0 : ∀ q, sz ≤ q → g q = 0) : mjEvP (d + 5) nyX11_firstWrongByte [.ref 0, .ref (27 + 2 * e)] (mjH I X) (fun o h2 => ∃ J, h2 = mjH J X ∧ (∀ k, k ≠ 22 → J k = I k) ∧ o = some (.int (fwA (syn g sz (sz + 1) 0 0).1))) := by
  refine mjEvP.of ?_
  refine mjGo.run 4 (pc' := 4) (F' := ([some (.ref 0), some (.ref (27 + 2 * e)), some (.int (nI 0)), some (.int (nI 0)), none], [], mjH I X)) (fun _ => rfl) ?_
  obtain ⟨n, x, hx, J, rfl, h1⟩ := x_fw_loop (d := d) (X := X) he hz hs hg g0 (sz + 1) 0 0 I none (by omega) (by omega) (by omega) (Or.inl rfl) (fun _ _ => rfl)
  exact ⟨n, _, hx, _, rfl, J, rfl, h1, rfl⟩
