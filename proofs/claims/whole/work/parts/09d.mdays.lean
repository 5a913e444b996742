/-! the reference: a day of any kind -/
def mOk (I : Nat → Nat → Int32) (np n9 : Nat) : Prop := I 44 2 = nI np ∧ okP (I 52) np ∧ I 44 0 = nI n9 ∧ okW (I 45) (I 46) n9
/-- a day by the reference's cells -/
def mS (I : Nat → Nat → Int32) (np n9 : Nat) (as f dr : Int32) (wn : Nat) (law : Int32) : dyT := dyS as f dr (nI wn) law (I 45) (I 46) (I 47) (I 52) np wn n9
def dyCost (s : dyT) : Int32 := s.2.2.1.1 + s.2.2.2.2.1
def mDayP (I0 : Nat → Nat → Int32) (X : MX) (n9 : Nat) (s : dyT) (o : Option Value) (h2 : MH) : Prop := ∃ J, h2 = mjH J X ∧ eqO scd I0 J ∧ mDS J s n9 ∧ o = some (.int (dyCost s))
theorem c_mDayN (d : Nat) {np n9 wn : Nat} {I0 I : Nat → Nat → Int32} {X : MX} {k f dr law : Int32} (hk : k ≠ 4) (ho : mOk I0 np n9) (heq : eqO scd I0 I) (hwn : wn ≤ 719) : mjEvP (d + 1) nyX12_dayOf [.ref 43, .int k, .int f, .int dr, .int (nI wn), .int law] (mjH I X) (mDayP I0 X n9 (mS I0 np n9 k f dr wn law)) := by
  obtain ⟨hnp, hp, hn, hok⟩ := ho
  refine mjEvP.of ?_
  show mjGo (d + 1) nyX12_dayOf 0 ([some (.ref 43), some (.int k), some (.int f), some (.int dr), some (.int (nI wn)), some (.int law), none, none, none, none, none, none, none, none, none, none], [], mjH I X) _
  refine mjGo.run 3 (pc' := (bif decide (k ≠ 4) then 9 else 5)) (F' := ([some (.ref 43), some (.int k), some (.int f), some (.int dr), some (.int (nI wn)), some (.int law), none, none, none, none, none, none, none, none, none, none], [], mjH I X)) (fun _ => rfl) ?_
  refine mjGo.br (fun q1 => ?_) (fun q1 => ?_)
  · show mjGo _ _ 9 _ _
    refine mjGo.run 5 (pc' := (bif decide (k ≠ 4) then 29 else 17)) (F' := ([some (.ref 43), some (.int k), some (.int f), some (.int dr), some (.int (nI wn)), some (.int law), some (.int k), none, none, none, none, none, none, none, none, none], [], mjH I X)) (fun _ => rfl) ?_
    refine mjGo.br (fun q2 => ?_) (fun q2 => ?_)
    · show mjGo _ _ 29 _ _
      refine mjGo.run 23 (pc' := 68) (F' := ([some (.ref 43), some (.int k), some (.int f), some (.int dr), some (.int (nI wn)), some (.int law), some (.int k), some (.int f), some (.int (nI wn)), some (.int (nI wn)), some (.int 0), none, none, none, none, none], [], mjH (mjU (mjU (mjU (mjU (mjU I 43 19 0) 43 20 0) 43 22 0) 43 23 0) 43 24 0) X)) (fun _ => rfl) ?_
      refine m_dy hnp hp.1 hn hok rfl hwn (Nat.le_trans (dyS_len13 hwn hok hp) (by omega)) ?_ (n9 + 1) 0 _ none none none none none (by omega) (by omega) (((((heq.put rfl).put rfl).put rfl).put rfl).put rfl) ⟨⟨rfl, rfl, fun i hi => absurd hi (Nat.not_lt_zero _)⟩, rfl, rfl, rfl, fun j hj => absurd hj (Nat.not_lt_zero _)⟩
      intro J p11 p12 p13 p14 p15 heJ hdJ
      refine mjGo.ret 6 (fun _ => rfl) ⟨_, rfl, J, rfl, heJ, hdJ, ?_⟩
      show some (Value.int (((J 43 19) + (J 43 23)))) = _
      rw [hdJ.1.1, hdJ.2.2.1]
      rfl
    · show mjGo _ _ 17 _ _
      first | exact absurd q2 q1 | exact absurd q1 q2 | (exfalso; simp_all; done)
  · show mjGo _ _ 5 _ _
    first | exact absurd q1 hk | exact absurd hk q1 | (exfalso; simp_all; done)
/-- the first of the least -/
def bstS (c : Nat → Int32) : Nat → Int32 × Int32
  | 0 => (0, c 0)
  | k + 1 => if c (k + 1) < (bstS c k).2 then (nI (k + 1), c (k + 1)) else bstS c k
def mBc (I : Nat → Nat → Int32) (np n9 : Nat) (dr : Int32) (wn : Nat) (law : Int32) (f : Nat) : Int32 := dyCost (mS I np n9 2 (nI f) dr wn law)
def mBf (I : Nat → Nat → Int32) (np n9 : Nat) (dr : Int32) (wn : Nat) (law : Int32) : Int32 := (bstS (mBc I np n9 dr wn law) 9).1
theorem m_best_loop {d np n9 wn : Nat} {I0 : Nat → Nat → Int32} {X : MX} {dr law : Int32} (ho : mOk I0 np n9) (hwn : wn ≤ 719) : ∀ (fuel k9 : Nat) (I : Nat → Nat → Int32) (o7 : Option Value), 10 < k9 + fuel → 1 ≤ k9 → k9 ≤ 10 → eqO scd I0 I →
    mjGo (d + 2) nyX12_bestOf 17 ([some (.ref 43), some (.int dr), some (.int (nI wn)), some (.int law), some (.int (bstS (mBc I0 np n9 dr wn law) (k9 - 1)).1), some (.int (bstS (mBc I0 np n9 dr wn law) (k9 - 1)).2), some (.int (nI k9)), o7], [], mjH I X) (fun x => ∃ o, x.1 = .inl o ∧ ∃ J, x.2 = mjH J X ∧ eqO scd I0 J ∧ o = some (.int (mBf I0 np n9 dr wn law))) := by
  intro fuel
  induction fuel with
  | zero => intro k9 I o7 h1 h2 h3; omega
  | succ fuel ih =>
    intro k9 I o7 h1 h2 h3 heq
    refine mjGo.run 2 (pc' := 21) (F' := ([some (.ref 43), some (.int dr), some (.int (nI wn)), some (.int law), some (.int (bstS (mBc I0 np n9 dr wn law) (k9 - 1)).1), some (.int (bstS (mBc I0 np n9 dr wn law) (k9 - 1)).2), some (.int (nI k9)), o7], [.int 10, .int (nI k9)], mjH I X)) (fun _ => rfl) ?_
    refine mjGo.run 1 (pc' := (bif decide (10 ≤ (nI k9)) then 57 else 24)) (F' := ([some (.ref 43), some (.int dr), some (.int (nI wn)), some (.int law), some (.int (bstS (mBc I0 np n9 dr wn law) (k9 - 1)).1), some (.int (bstS (mBc I0 np n9 dr wn law) (k9 - 1)).2), some (.int (nI k9)), o7], [], mjH I X)) (fun _ => rfl) ?_
    refine mjGo.br (fun q0 => ?_) (fun q0 => ?_)
    · show mjGo _ _ 57 _ _
      rw [show (10 : Int32) = nI 10 from rfl, nI_leI (by omega) (by omega)] at q0
      have e : k9 = 10 := by omega
      subst e
      exact mjGo.ret 2 (fun _ => rfl) ⟨_, rfl, I, rfl, heq, rfl⟩
    · show mjGo _ _ 24 _ _
      rw [show (10 : Int32) = nI 10 from rfl, nI_leI (by omega) (by omega)] at q0
      refine mjGo.run 6 (pc' := 31) (F' := ([some (.ref 43), some (.int dr), some (.int (nI wn)), some (.int law), some (.int (bstS (mBc I0 np n9 dr wn law) (k9 - 1)).1), some (.int (bstS (mBc I0 np n9 dr wn law) (k9 - 1)).2), some (.int (nI k9)), o7], [.int law, .int (nI wn), .int dr, .int (nI k9), .int 2, .ref 43], mjH I X)) (fun _ => rfl) ?_
      obtain ⟨o9, h9, hev, J, rfl, heJ, hdJ, rfl⟩ := c_mDayN d (k := 2) (f := (nI k9)) (dr := dr) (wn := wn) (law := law) (X := X) (by decide) ho heq hwn
      refine mjGo.call (n := 6) (j := 151) (nx := 34) (o := some (.int (dyCost (mS I0 np n9 2 (nI k9) dr wn law)))) (h' := mjH J X) (fun _ => rfl) (hev) ?_
      show mjGo _ _ 34 ([some (.ref 43), some (.int dr), some (.int (nI wn)), some (.int law), some (.int (bstS (mBc I0 np n9 dr wn law) (k9 - 1)).1), some (.int (bstS (mBc I0 np n9 dr wn law) (k9 - 1)).2), some (.int (nI k9)), o7], [.int (dyCost (mS I0 np n9 2 (nI k9) dr wn law))], mjH J X) _
      refine mjGo.run 4 (pc' := (bif decide ((bstS (mBc I0 np n9 dr wn law) (k9 - 1)).2 ≤ (dyCost (mS I0 np n9 2 (nI k9) dr wn law))) then 51 else 43)) (F' := ([some (.ref 43), some (.int dr), some (.int (nI wn)), some (.int law), some (.int (bstS (mBc I0 np n9 dr wn law) (k9 - 1)).1), some (.int (bstS (mBc I0 np n9 dr wn law) (k9 - 1)).2), some (.int (nI k9)), some (.int (dyCost (mS I0 np n9 2 (nI k9) dr wn law)))], [], mjH J X)) (fun _ => rfl) ?_
      refine mjGo.br (fun q1 => ?_) (fun q1 => ?_)
      · show mjGo _ _ 51 _ _
        refine mjGo.run 2 (pc' := 17) (F' := ([some (.ref 43), some (.int dr), some (.int (nI wn)), some (.int law), some (.int (bstS (mBc I0 np n9 dr wn law) (k9 - 1)).1), some (.int (bstS (mBc I0 np n9 dr wn law) (k9 - 1)).2), some (.int ((nI k9) + 1)), some (.int (dyCost (mS I0 np n9 2 (nI k9) dr wn law)))], [], mjH J X)) (fun _ => rfl) ?_
        have e1 : k9 - 1 + 1 = k9 := by omega
        have k8 := ih (k9 + 1) J (some (.int (dyCost (mS I0 np n9 2 (nI k9) dr wn law)))) (by omega) (by omega) (by omega) heJ
        rw [show k9 + 1 - 1 = k9 - 1 + 1 by omega, bstS, e1, ← nI_1] at k8
        rw [if_neg (show ¬ mBc I0 np n9 dr wn law k9 < (bstS (mBc I0 np n9 dr wn law) (k9 - 1)).2 by rw [Int32.not_lt]; exact q1)] at k8
        exact k8
      · show mjGo _ _ 43 _ _
        refine mjGo.run 6 (pc' := 17) (F' := ([some (.ref 43), some (.int dr), some (.int (nI wn)), some (.int law), some (.int (nI k9)), some (.int (dyCost (mS I0 np n9 2 (nI k9) dr wn law))), some (.int ((nI k9) + 1)), some (.int (dyCost (mS I0 np n9 2 (nI k9) dr wn law)))], [], mjH J X)) (fun _ => rfl) ?_
        have e1 : k9 - 1 + 1 = k9 := by omega
        have k8 := ih (k9 + 1) J (some (.int (dyCost (mS I0 np n9 2 (nI k9) dr wn law)))) (by omega) (by omega) (by omega) heJ
        rw [show k9 + 1 - 1 = k9 - 1 + 1 by omega, bstS, e1, ← nI_1] at k8
        rw [if_pos (show mBc I0 np n9 dr wn law k9 < (bstS (mBc I0 np n9 dr wn law) (k9 - 1)).2 from Int32.not_le.mp q1)] at k8
        exact k8
def mBestP (I0 : Nat → Nat → Int32) (X : MX) (v : Int32) (o : Option Value) (h2 : MH) : Prop := ∃ J, h2 = mjH J X ∧ eqO scd I0 J ∧ o = some (.int v)
theorem c_mBest (d : Nat) {np n9 wn : Nat} {I0 I : Nat → Nat → Int32} {X : MX} {dr law : Int32} (ho : mOk I0 np n9) (heq : eqO scd I0 I) (hwn : wn ≤ 719) : mjEvP (d + 2) nyX12_bestOf [.ref 43, .int dr, .int (nI wn), .int law] (mjH I X) (mBestP I0 X (mBf I0 np n9 dr wn law)) := by
  refine mjEvP.of ?_
  show mjGo (d + 2) nyX12_bestOf 0 ([some (.ref 43), some (.int dr), some (.int (nI wn)), some (.int law), none, none, none, none], [], mjH I X) _
  refine mjGo.run 8 (pc' := 9) (F' := ([some (.ref 43), some (.int dr), some (.int (nI wn)), some (.int law), some (.int 0), none, none, none], [.int law, .int (nI wn), .int dr, .int 0, .int 2, .ref 43], mjH I X)) (fun _ => rfl) ?_
  obtain ⟨o9, h9, hev, J, rfl, heJ, hdJ, rfl⟩ := c_mDayN d (k := 2) (f := 0) (dr := dr) (wn := wn) (law := law) (X := X) (by decide) ho heq hwn
  refine mjGo.call (n := 6) (j := 151) (nx := 12) (o := some (.int (dyCost (mS I0 np n9 2 0 dr wn law)))) (h' := mjH J X) (fun _ => rfl) (hev) ?_
  show mjGo _ _ 12 ([some (.ref 43), some (.int dr), some (.int (nI wn)), some (.int law), some (.int 0), none, none, none], [.int (dyCost (mS I0 np n9 2 0 dr wn law))], mjH J X) _
  refine mjGo.run 3 (pc' := 17) (F' := ([some (.ref 43), some (.int dr), some (.int (nI wn)), some (.int law), some (.int 0), some (.int (dyCost (mS I0 np n9 2 0 dr wn law))), some (.int 1), none], [], mjH J X)) (fun _ => rfl) ?_
  exact m_best_loop ho hwn 10 1 J none (by omega) (by omega) (by omega) heJ
theorem c_mDayB (d : Nat) {np n9 wn : Nat} {I0 I : Nat → Nat → Int32} {X : MX} {f dr law : Int32} (ho : mOk I0 np n9) (heq : eqO scd I0 I) (hwn : wn ≤ 719) : mjEvP (d + 3) nyX12_dayOf [.ref 43, .int 4, .int f, .int dr, .int (nI wn), .int law] (mjH I X) (mDayP I0 X n9 (mS I0 np n9 2 (mBf I0 np n9 dr wn law) dr wn law)) := by
  have ho9 := ho
  obtain ⟨hnp, hp, hn, hok⟩ := ho
  refine mjEvP.of ?_
  show mjGo (d + 3) nyX12_dayOf 0 ([some (.ref 43), some (.int 4), some (.int f), some (.int dr), some (.int (nI wn)), some (.int law), none, none, none, none, none, none, none, none, none, none], [], mjH I X) _
  refine mjGo.run 13 (pc' := 23) (F' := ([some (.ref 43), some (.int 4), some (.int f), some (.int dr), some (.int (nI wn)), some (.int law), some (.int 2), none, none, none, none, none, none, none, none, none], [.int law, .int (nI wn), .int dr, .ref 43], mjH I X)) (fun _ => rfl) ?_
  obtain ⟨o9, h9, hev, J0, rfl, heq, rfl⟩ := c_mBest d (dr := dr) (wn := wn) (law := law) (X := X) ho9 heq hwn
  refine mjGo.call (n := 4) (j := 152) (nx := 26) (o := some (.int (mBf I0 np n9 dr wn law))) (h' := mjH J0 X) (fun _ => rfl) (hev) ?_
  show mjGo _ _ 26 ([some (.ref 43), some (.int 4), some (.int f), some (.int dr), some (.int (nI wn)), some (.int law), some (.int 2), none, none, none, none, none, none, none, none, none], [.int (mBf I0 np n9 dr wn law)], mjH J0 X) _
  refine mjGo.run 23 (pc' := 68) (F' := ([some (.ref 43), some (.int 4), some (.int f), some (.int dr), some (.int (nI wn)), some (.int law), some (.int 2), some (.int (mBf I0 np n9 dr wn law)), some (.int (nI wn)), some (.int (nI wn)), some (.int 0), none, none, none, none, none], [], mjH (mjU (mjU (mjU (mjU (mjU J0 43 19 0) 43 20 0) 43 22 0) 43 23 0) 43 24 0) X)) (fun _ => rfl) ?_
  refine m_dy hnp hp.1 hn hok rfl hwn (Nat.le_trans (dyS_len13 hwn hok hp) (by omega)) ?_ (n9 + 1) 0 _ none none none none none (by omega) (by omega) (((((heq.put rfl).put rfl).put rfl).put rfl).put rfl) ⟨⟨rfl, rfl, fun i hi => absurd hi (Nat.not_lt_zero _)⟩, rfl, rfl, rfl, fun j hj => absurd hj (Nat.not_lt_zero _)⟩
  intro J p11 p12 p13 p14 p15 heJ hdJ
  refine mjGo.ret 6 (fun _ => rfl) ⟨_, rfl, J, rfl, heJ, hdJ, ?_⟩
  show some (Value.int (((J 43 19) + (J 43 23)))) = _
  rw [hdJ.1.1, hdJ.2.2.1]
  rfl
/-- what a day of a kind comes to -/
def mD (I : Nat → Nat → Int32) (np n9 : Nat) (k f dr : Int32) (wn : Nat) (law : Int32) : dyT := if k = 4 then mS I np n9 2 (mBf I np n9 dr wn law) dr wn law else mS I np n9 k f dr wn law
theorem c_mDay (d : Nat) {np n9 wn : Nat} {I0 I : Nat → Nat → Int32} {X : MX} {k f dr law : Int32} (ho : mOk I0 np n9) (heq : eqO scd I0 I) (hwn : wn ≤ 719) : mjEvP (d + 3) nyX12_dayOf [.ref 43, .int k, .int f, .int dr, .int (nI wn), .int law] (mjH I X) (mDayP I0 X n9 (mD I0 np n9 k f dr wn law)) := by
  unfold mD
  by_cases h : k = 4
  · subst h
    rw [if_pos rfl]
    exact c_mDayB d ho heq hwn
  · rw [if_neg h]
    exact c_mDayN (d + 2) h ho heq hwn
