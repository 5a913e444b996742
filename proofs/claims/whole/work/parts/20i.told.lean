/-! town: the reference goes through the text -/
abbrev TS : Type := (Nat → Nat → Int32) × Nat × Nat × Nat
def laT (s : TS) : Int32 := if s.2.1 = 0 then -1 else s.1 45 (s.2.1 - 1)
def plT (s : TS) : Int32 := if s.2.2.2 = 0 then -1 else s.1 52 (s.2.2.2 - 1)
def okB (s : TS) (l : Int32) (F : Nat → Int32) : Bool := if l = 119 then decide (s.2.1 < 5 ∧ F 0 ≤ 719 ∧ laT s < F 0 ∧ F 1 ≤ 59) else if l = 107 then decide (s.2.2.1 < 6 ∧ F 0 ≤ 7 ∧ ¬ mIn (F 2) (-20) 20 = 0 ∧ F 3 ≤ 719) else if l = 108 then decide (F 0 ≤ 2) else decide (s.2.2.2 < 8 ∧ F 0 ≤ 719 ∧ plT s < F 0)
def stp (s : TS) (l : Int32) (F : Nat → Int32) : TS := if l = 119 then (mjU (mjU (mjU (mjU s.1 45 s.2.1 (F 0)) 46 s.2.1 (F 1)) 47 s.2.1 (F 2)) 44 0 (nI (s.2.1 + 1)), s.2.1 + 1, s.2.2.1, s.2.2.2)
  else if l = 107 then (mjU (mjU (mjU (mjU (mjU s.1 48 s.2.2.1 (F 0)) 49 s.2.2.1 (F 1)) 50 s.2.2.1 (F 2)) 51 s.2.2.1 (F 3)) 44 1 (nI (s.2.2.1 + 1)), s.2.1, s.2.2.1 + 1, s.2.2.2)
  else if l = 108 then (mjU s.1 44 3 (F 0), s.2)
  else (mjU (mjU s.1 52 s.2.2.2 (F 0)) 44 2 (nI (s.2.2.2 + 1)), s.2.1, s.2.2.1, s.2.2.2 + 1)
def tw (g : Nat → Int32) (sz : Nat) : Nat → Nat → TS → Nat ⊕ TS
  | 0, _, s => .inr s
  | k + 1, p, s => if p < sz then (if okB s (g p) (fld g p) = true then tw g sz k (stE g p).1 (stp s (g p) (fld g p)) else .inl p) else .inr s
def wfT (g : Nat → Int32) (sz : Nat) : Nat → Nat → Prop
  | 0, _ => True
  | k + 1, p => p < sz → ((stE g p).2 = true ∧ wfT g sz k (stE g p).1)
theorem syn_wf {g : Nat → Int32} {sz : Nat} : ∀ (k p n : Nat), (syn g sz k p n).1 = none → wfT g sz k p
  | 0, _, _, _ => trivial
  | k + 1, p, n, h => fun _ => by
    rw [syn] at h
    cases hw : (stE g p).2
    · rw [hw, if_neg (by decide)] at h
      cases h
    · rw [hw, if_pos rfl] at h
      refine ⟨rfl, ?_⟩
      by_cases w : (stE g p).1 < sz
      · rw [if_pos w] at h
        exact syn_wf k _ _ h
      · match k with
        | 0 => exact trivial
        | k + 1 => exact fun w2 => absurd w2 w
theorem stE_lt {g : Nat → Int32} {p : Nat} (h : (stE g p).2 = true) : g p = 119 ∨ g p = 107 ∨ g p = 108 ∨ g p = 112 := by
  refine Classical.byContradiction fun w => ?_
  rw [stE, lfm_no (fun e => w (Or.inl e)) (fun e => w (Or.inr (Or.inl e))) (fun e => w (Or.inr (Or.inr (Or.inl e)))) (fun e => w (Or.inr (Or.inr (Or.inr e)))), if_pos rfl] at h
  cases h
def VB (s : TS) : Prop := (s.1 44 0 = nI s.2.1 ∧ s.1 44 1 = nI s.2.2.1 ∧ s.1 44 2 = nI s.2.2.2) ∧ s.2.1 ≤ 5 ∧ s.2.2.1 ≤ 6 ∧ s.2.2.2 ≤ 8
theorem stp_119 {s : TS} {F : Nat → Int32} : stp s 119 F = (mjU (mjU (mjU (mjU s.1 45 s.2.1 (F 0)) 46 s.2.1 (F 1)) 47 s.2.1 (F 2)) 44 0 (nI (s.2.1 + 1)), s.2.1 + 1, s.2.2.1, s.2.2.2) := if_pos rfl
theorem stp_107 {s : TS} {F : Nat → Int32} : stp s 107 F = (mjU (mjU (mjU (mjU (mjU s.1 48 s.2.2.1 (F 0)) 49 s.2.2.1 (F 1)) 50 s.2.2.1 (F 2)) 51 s.2.2.1 (F 3)) 44 1 (nI (s.2.2.1 + 1)), s.2.1, s.2.2.1 + 1, s.2.2.2) := (if_neg (by decide)).trans (if_pos rfl)
theorem stp_108 {s : TS} {F : Nat → Int32} : stp s 108 F = (mjU s.1 44 3 (F 0), s.2) := (if_neg (by decide)).trans ((if_neg (by decide)).trans (if_pos rfl))
theorem stp_112 {s : TS} {F : Nat → Int32} : stp s 112 F = (mjU (mjU s.1 52 s.2.2.2 (F 0)) 44 2 (nI (s.2.2.2 + 1)), s.2.1, s.2.2.1, s.2.2.2 + 1) := (if_neg (by decide)).trans ((if_neg (by decide)).trans (if_neg (by decide)))
theorem okB_119 {s : TS} {F : Nat → Int32} : okB s 119 F = decide (s.2.1 < 5 ∧ F 0 ≤ 719 ∧ laT s < F 0 ∧ F 1 ≤ 59) := if_pos rfl
theorem okB_107 {s : TS} {F : Nat → Int32} : okB s 107 F = decide (s.2.2.1 < 6 ∧ F 0 ≤ 7 ∧ ¬ mIn (F 2) (-20) 20 = 0 ∧ F 3 ≤ 719) := (if_neg (by decide)).trans (if_pos rfl)
theorem okB_108 {s : TS} {F : Nat → Int32} : okB s 108 F = decide (F 0 ≤ 2) := (if_neg (by decide)).trans ((if_neg (by decide)).trans (if_pos rfl))
theorem okB_112 {s : TS} {F : Nat → Int32} : okB s 112 F = decide (s.2.2.2 < 8 ∧ F 0 ≤ 719 ∧ plT s < F 0) := (if_neg (by decide)).trans ((if_neg (by decide)).trans (if_neg (by decide)))
theorem stp_VB {s : TS} {l : Int32} {F : Nat → Int32} (h : VB s) (hl : l = 119 ∨ l = 107 ∨ l = 108 ∨ l = 112) (ho : okB s l F = true) : VB (stp s l F) := by
  obtain ⟨⟨h1, h2, h3⟩, h4, h5, h6⟩ := h
  rcases hl with rfl | rfl | rfl | rfl
  · rw [okB_119, decide_eq_true_eq] at ho
    rw [stp_119]
    refine ⟨⟨rfl, h2, h3⟩, ?_, h5, h6⟩
    · show s.2.1 + 1 ≤ 5
      omega
  · rw [okB_107, decide_eq_true_eq] at ho
    rw [stp_107]
    refine ⟨⟨h1, rfl, h3⟩, h4, ?_, h6⟩
    · show s.2.2.1 + 1 ≤ 6
      omega
  · rw [stp_108]
    exact ⟨⟨h1, h2, h3⟩, h4, h5, h6⟩
  · rw [okB_112, decide_eq_true_eq] at ho
    rw [stp_112]
    refine ⟨⟨h1, h2, rfl⟩, h4, h5, ?_⟩
    · show s.2.2.2 + 1 ≤ 8
      omega
theorem c_iat119 (d : Nat) {s : TS} {F : Nat → Int32} {I : Nat → Nat → Int32} {X : MX} (hb : VB s) (hF : ∀ i, i < 3 → I 65 i = F i) : mjEv (d + 1) nyX12_isAsTold [.ref 43, .int 119, .int (nI s.2.1), .int (nI s.2.2.1), .int (nI s.2.2.2), .int (laT s), .int (plT s)] (mjH I X) (.inl (some (.int (bI (okB s 119 F))))) (mjH I X) := by
  obtain ⟨_, h4, h5, h6⟩ := hb
  rw [okB_119]
  refine mjEv.of ?_
  show mjGo (d + 1) nyX12_isAsTold 0 ([some (.ref 43), some (.int 119), some (.int (nI s.2.1)), some (.int (nI s.2.2.1)), some (.int (nI s.2.2.2)), some (.int (laT s)), some (.int (plT s))], [], mjH I X) _
  refine mjGo.run 5 (pc' := (bif decide (5 ≤ (nI s.2.1)) then 79 else 41)) (F' := ([some (.ref 43), some (.int 119), some (.int (nI s.2.1)), some (.int (nI s.2.2.1)), some (.int (nI s.2.2.2)), some (.int (laT s)), some (.int (plT s))], [], mjH I X)) (fun _ => rfl) ?_
  refine mjGo.br (fun q1 => ?_) (fun q1 => ?_)
  · show mjGo _ _ 79 _ _
    have zq1 := q1
    rw [decide_eq_false (show ¬ (s.2.1 < 5 ∧ F 0 ≤ 719 ∧ laT s < F 0 ∧ F 1 ≤ 59) from fun w => by have q9 := zq1; rw [show (5 : Int32) = nI 5 from rfl, nI_leI (by omega) (by omega)] at q9; have := w.1; omega)]
    exact mjGo.ret 2 (fun _ => rfl) rfl
  · show mjGo _ _ 41 _ _
    refine mjGo.run 6 (pc' := (bif decide (719 < (I 65 0)) then 79 else 53)) (F' := ([some (.ref 43), some (.int 119), some (.int (nI s.2.1)), some (.int (nI s.2.2.1)), some (.int (nI s.2.2.2)), some (.int (laT s)), some (.int (plT s))], [], mjH I X)) (fun _ => rfl) ?_
    refine mjGo.br (fun q2 => ?_) (fun q2 => ?_)
    · show mjGo _ _ 79 _ _
      have zq1 := q1
      have zq2 := q2
      rw [hF 0 (by decide)] at zq2
      rw [decide_eq_false (show ¬ (s.2.1 < 5 ∧ F 0 ≤ 719 ∧ laT s < F 0 ∧ F 1 ≤ 59) from fun w => by exact absurd w.2.1 (Int32.not_le.mpr zq2))]
      exact mjGo.ret 2 (fun _ => rfl) rfl
    · show mjGo _ _ 53 _ _
      refine mjGo.run 6 (pc' := (bif decide ((I 65 0) ≤ (laT s)) then 79 else 64)) (F' := ([some (.ref 43), some (.int 119), some (.int (nI s.2.1)), some (.int (nI s.2.2.1)), some (.int (nI s.2.2.2)), some (.int (laT s)), some (.int (plT s))], [], mjH I X)) (fun _ => rfl) ?_
      refine mjGo.br (fun q3 => ?_) (fun q3 => ?_)
      · show mjGo _ _ 79 _ _
        have zq1 := q1
        have zq2 := q2
        rw [hF 0 (by decide)] at zq2
        have zq3 := q3
        rw [hF 0 (by decide)] at zq3
        rw [decide_eq_false (show ¬ (s.2.1 < 5 ∧ F 0 ≤ 719 ∧ laT s < F 0 ∧ F 1 ≤ 59) from fun w => by exact absurd w.2.2.1 (Int32.not_lt.mpr zq3))]
        exact mjGo.ret 2 (fun _ => rfl) rfl
      · show mjGo _ _ 64 _ _
        refine mjGo.run 6 (pc' := (bif decide (59 < (I 65 1)) then 79 else 75)) (F' := ([some (.ref 43), some (.int 119), some (.int (nI s.2.1)), some (.int (nI s.2.2.1)), some (.int (nI s.2.2.2)), some (.int (laT s)), some (.int (plT s))], [], mjH I X)) (fun _ => rfl) ?_
        refine mjGo.br (fun q4 => ?_) (fun q4 => ?_)
        · show mjGo _ _ 79 _ _
          have zq1 := q1
          have zq2 := q2
          rw [hF 0 (by decide)] at zq2
          have zq3 := q3
          rw [hF 0 (by decide)] at zq3
          have zq4 := q4
          rw [hF 1 (by decide)] at zq4
          rw [decide_eq_false (show ¬ (s.2.1 < 5 ∧ F 0 ≤ 719 ∧ laT s < F 0 ∧ F 1 ≤ 59) from fun w => by exact absurd w.2.2.2 (Int32.not_le.mpr zq4))]
          exact mjGo.ret 2 (fun _ => rfl) rfl
        · show mjGo _ _ 75 _ _
          have zq1 := q1
          have zq2 := q2
          rw [hF 0 (by decide)] at zq2
          have zq3 := q3
          rw [hF 0 (by decide)] at zq3
          have zq4 := q4
          rw [hF 1 (by decide)] at zq4
          rw [decide_eq_true (show s.2.1 < 5 ∧ F 0 ≤ 719 ∧ laT s < F 0 ∧ F 1 ≤ 59 from ⟨(by have q9 := zq1; rw [show (5 : Int32) = nI 5 from rfl, nI_leI (by omega) (by omega)] at q9; omega), (Int32.not_lt.mp zq2), (Int32.not_le.mp zq3), (Int32.not_lt.mp zq4)⟩)]
          exact mjGo.ret 3 (fun _ => rfl) rfl
theorem c_iat107 (d : Nat) {s : TS} {F : Nat → Int32} {I : Nat → Nat → Int32} {X : MX} (hb : VB s) (hF : ∀ i, i < 4 → I 65 i = F i) : mjEv (d + 1) nyX12_isAsTold [.ref 43, .int 107, .int (nI s.2.1), .int (nI s.2.2.1), .int (nI s.2.2.2), .int (laT s), .int (plT s)] (mjH I X) (.inl (some (.int (bI (okB s 107 F))))) (mjH I X) := by
  obtain ⟨_, h4, h5, h6⟩ := hb
  rw [okB_107]
  refine mjEv.of ?_
  show mjGo (d + 1) nyX12_isAsTold 0 ([some (.ref 43), some (.int 107), some (.int (nI s.2.1)), some (.int (nI s.2.2.1)), some (.int (nI s.2.2.2)), some (.int (laT s)), some (.int (plT s))], [], mjH I X) _
  refine mjGo.run 5 (pc' := (bif decide (6 ≤ (nI s.2.2.1)) then 130 else 87)) (F' := ([some (.ref 43), some (.int 107), some (.int (nI s.2.1)), some (.int (nI s.2.2.1)), some (.int (nI s.2.2.2)), some (.int (laT s)), some (.int (plT s))], [], mjH I X)) (fun _ => rfl) ?_
  refine mjGo.br (fun q1 => ?_) (fun q1 => ?_)
  · show mjGo _ _ 130 _ _
    have zq1 := q1
    rw [decide_eq_false (show ¬ (s.2.2.1 < 6 ∧ F 0 ≤ 7 ∧ ¬ mIn (F 2) (-20) 20 = 0 ∧ F 3 ≤ 719) from fun w => by have q9 := zq1; rw [show (6 : Int32) = nI 6 from rfl, nI_leI (by omega) (by omega)] at q9; have := w.1; omega)]
    exact mjGo.ret 2 (fun _ => rfl) rfl
  · show mjGo _ _ 87 _ _
    refine mjGo.run 6 (pc' := (bif decide (7 < (I 65 0)) then 130 else 98)) (F' := ([some (.ref 43), some (.int 107), some (.int (nI s.2.1)), some (.int (nI s.2.2.1)), some (.int (nI s.2.2.2)), some (.int (laT s)), some (.int (plT s))], [], mjH I X)) (fun _ => rfl) ?_
    refine mjGo.br (fun q2 => ?_) (fun q2 => ?_)
    · show mjGo _ _ 130 _ _
      have zq1 := q1
      have zq2 := q2
      rw [hF 0 (by decide)] at zq2
      rw [decide_eq_false (show ¬ (s.2.2.1 < 6 ∧ F 0 ≤ 7 ∧ ¬ mIn (F 2) (-20) 20 = 0 ∧ F 3 ≤ 719) from fun w => by exact absurd w.2.1 (Int32.not_le.mpr zq2))]
      exact mjGo.ret 2 (fun _ => rfl) rfl
    · show mjGo _ _ 98 _ _
      refine mjGo.run 6 (pc' := 108) (F' := ([some (.ref 43), some (.int 107), some (.int (nI s.2.1)), some (.int (nI s.2.2.1)), some (.int (nI s.2.2.2)), some (.int (laT s)), some (.int (plT s))], [.int 20, .int (-20), .int (I 65 2)], mjH I X)) (fun _ => rfl) ?_
      refine mjGo.call (n := 3) (j := 132) (nx := 111) (o := some (.int (mIn (I 65 2) (-20) 20))) (h' := mjH I X) (fun _ => rfl) (c_mIn d (I 65 2) (-20) 20 _) ?_
      show mjGo _ _ 111 ([some (.ref 43), some (.int 107), some (.int (nI s.2.1)), some (.int (nI s.2.2.1)), some (.int (nI s.2.2.2)), some (.int (laT s)), some (.int (plT s))], [.int (mIn (I 65 2) (-20) 20)], mjH I X) _
      refine mjGo.run 1 (pc' := (bif decide ((mIn (I 65 2) (-20) 20) = 0) then 130 else 114)) (F' := ([some (.ref 43), some (.int 107), some (.int (nI s.2.1)), some (.int (nI s.2.2.1)), some (.int (nI s.2.2.2)), some (.int (laT s)), some (.int (plT s))], [], mjH I X)) (fun _ => rfl) ?_
      refine mjGo.br (fun q3 => ?_) (fun q3 => ?_)
      · show mjGo _ _ 130 _ _
        have zq1 := q1
        have zq2 := q2
        rw [hF 0 (by decide)] at zq2
        have zq3 := q3
        rw [hF 2 (by decide)] at zq3
        rw [decide_eq_false (show ¬ (s.2.2.1 < 6 ∧ F 0 ≤ 7 ∧ ¬ mIn (F 2) (-20) 20 = 0 ∧ F 3 ≤ 719) from fun w => by exact absurd zq3 w.2.2.1)]
        exact mjGo.ret 2 (fun _ => rfl) rfl
      · show mjGo _ _ 114 _ _
        refine mjGo.run 6 (pc' := (bif decide (719 < (I 65 3)) then 130 else 126)) (F' := ([some (.ref 43), some (.int 107), some (.int (nI s.2.1)), some (.int (nI s.2.2.1)), some (.int (nI s.2.2.2)), some (.int (laT s)), some (.int (plT s))], [], mjH I X)) (fun _ => rfl) ?_
        refine mjGo.br (fun q4 => ?_) (fun q4 => ?_)
        · show mjGo _ _ 130 _ _
          have zq1 := q1
          have zq2 := q2
          rw [hF 0 (by decide)] at zq2
          have zq3 := q3
          rw [hF 2 (by decide)] at zq3
          have zq4 := q4
          rw [hF 3 (by decide)] at zq4
          rw [decide_eq_false (show ¬ (s.2.2.1 < 6 ∧ F 0 ≤ 7 ∧ ¬ mIn (F 2) (-20) 20 = 0 ∧ F 3 ≤ 719) from fun w => by exact absurd w.2.2.2 (Int32.not_le.mpr zq4))]
          exact mjGo.ret 2 (fun _ => rfl) rfl
        · show mjGo _ _ 126 _ _
          have zq1 := q1
          have zq2 := q2
          rw [hF 0 (by decide)] at zq2
          have zq3 := q3
          rw [hF 2 (by decide)] at zq3
          have zq4 := q4
          rw [hF 3 (by decide)] at zq4
          rw [decide_eq_true (show s.2.2.1 < 6 ∧ F 0 ≤ 7 ∧ ¬ mIn (F 2) (-20) 20 = 0 ∧ F 3 ≤ 719 from ⟨(by have q9 := zq1; rw [show (6 : Int32) = nI 6 from rfl, nI_leI (by omega) (by omega)] at q9; omega), (Int32.not_lt.mp zq2), zq3, (Int32.not_lt.mp zq4)⟩)]
          exact mjGo.ret 3 (fun _ => rfl) rfl
theorem c_iat108 (d : Nat) {s : TS} {F : Nat → Int32} {I : Nat → Nat → Int32} {X : MX} (hb : VB s) (hF : ∀ i, i < 1 → I 65 i = F i) : mjEv (d + 1) nyX12_isAsTold [.ref 43, .int 108, .int (nI s.2.1), .int (nI s.2.2.1), .int (nI s.2.2.2), .int (laT s), .int (plT s)] (mjH I X) (.inl (some (.int (bI (okB s 108 F))))) (mjH I X) := by
  obtain ⟨_, h4, h5, h6⟩ := hb
  rw [okB_108]
  refine mjEv.of ?_
  show mjGo (d + 1) nyX12_isAsTold 0 ([some (.ref 43), some (.int 108), some (.int (nI s.2.1)), some (.int (nI s.2.2.1)), some (.int (nI s.2.2.2)), some (.int (laT s)), some (.int (plT s))], [], mjH I X) _
  refine mjGo.run 8 (pc' := (bif decide (2 < (I 65 0)) then 146 else 142)) (F' := ([some (.ref 43), some (.int 108), some (.int (nI s.2.1)), some (.int (nI s.2.2.1)), some (.int (nI s.2.2.2)), some (.int (laT s)), some (.int (plT s))], [], mjH I X)) (fun _ => rfl) ?_
  refine mjGo.br (fun q1 => ?_) (fun q1 => ?_)
  · show mjGo _ _ 146 _ _
    have zq1 := q1
    rw [hF 0 (by decide)] at zq1
    rw [decide_eq_false (show ¬ (F 0 ≤ 2) from fun w => by exact absurd w (Int32.not_le.mpr zq1))]
    exact mjGo.ret 2 (fun _ => rfl) rfl
  · show mjGo _ _ 142 _ _
    have zq1 := q1
    rw [hF 0 (by decide)] at zq1
    rw [decide_eq_true (show F 0 ≤ 2 from (Int32.not_lt.mp zq1))]
    exact mjGo.ret 3 (fun _ => rfl) rfl
theorem c_iat112 (d : Nat) {s : TS} {F : Nat → Int32} {I : Nat → Nat → Int32} {X : MX} (hb : VB s) (hF : ∀ i, i < 1 → I 65 i = F i) : mjEv (d + 1) nyX12_isAsTold [.ref 43, .int 112, .int (nI s.2.1), .int (nI s.2.2.1), .int (nI s.2.2.2), .int (laT s), .int (plT s)] (mjH I X) (.inl (some (.int (bI (okB s 112 F))))) (mjH I X) := by
  obtain ⟨_, h4, h5, h6⟩ := hb
  rw [okB_112]
  refine mjEv.of ?_
  show mjGo (d + 1) nyX12_isAsTold 0 ([some (.ref 43), some (.int 112), some (.int (nI s.2.1)), some (.int (nI s.2.2.1)), some (.int (nI s.2.2.2)), some (.int (laT s)), some (.int (plT s))], [], mjH I X) _
  refine mjGo.run 5 (pc' := (bif decide (8 ≤ (nI s.2.2.2)) then 182 else 155)) (F' := ([some (.ref 43), some (.int 112), some (.int (nI s.2.1)), some (.int (nI s.2.2.1)), some (.int (nI s.2.2.2)), some (.int (laT s)), some (.int (plT s))], [], mjH I X)) (fun _ => rfl) ?_
  refine mjGo.br (fun q1 => ?_) (fun q1 => ?_)
  · show mjGo _ _ 182 _ _
    have zq1 := q1
    rw [decide_eq_false (show ¬ (s.2.2.2 < 8 ∧ F 0 ≤ 719 ∧ plT s < F 0) from fun w => by have q9 := zq1; rw [show (8 : Int32) = nI 8 from rfl, nI_leI (by omega) (by omega)] at q9; have := w.1; omega)]
    exact mjGo.ret 2 (fun _ => rfl) rfl
  · show mjGo _ _ 155 _ _
    refine mjGo.run 6 (pc' := (bif decide (719 < (I 65 0)) then 182 else 167)) (F' := ([some (.ref 43), some (.int 112), some (.int (nI s.2.1)), some (.int (nI s.2.2.1)), some (.int (nI s.2.2.2)), some (.int (laT s)), some (.int (plT s))], [], mjH I X)) (fun _ => rfl) ?_
    refine mjGo.br (fun q2 => ?_) (fun q2 => ?_)
    · show mjGo _ _ 182 _ _
      have zq1 := q1
      have zq2 := q2
      rw [hF 0 (by decide)] at zq2
      rw [decide_eq_false (show ¬ (s.2.2.2 < 8 ∧ F 0 ≤ 719 ∧ plT s < F 0) from fun w => by exact absurd w.2.1 (Int32.not_le.mpr zq2))]
      exact mjGo.ret 2 (fun _ => rfl) rfl
    · show mjGo _ _ 167 _ _
      refine mjGo.run 6 (pc' := (bif decide ((I 65 0) ≤ (plT s)) then 182 else 178)) (F' := ([some (.ref 43), some (.int 112), some (.int (nI s.2.1)), some (.int (nI s.2.2.1)), some (.int (nI s.2.2.2)), some (.int (laT s)), some (.int (plT s))], [], mjH I X)) (fun _ => rfl) ?_
      refine mjGo.br (fun q3 => ?_) (fun q3 => ?_)
      · show mjGo _ _ 182 _ _
        have zq1 := q1
        have zq2 := q2
        rw [hF 0 (by decide)] at zq2
        have zq3 := q3
        rw [hF 0 (by decide)] at zq3
        rw [decide_eq_false (show ¬ (s.2.2.2 < 8 ∧ F 0 ≤ 719 ∧ plT s < F 0) from fun w => by exact absurd w.2.2 (Int32.not_lt.mpr zq3))]
        exact mjGo.ret 2 (fun _ => rfl) rfl
      · show mjGo _ _ 178 _ _
        have zq1 := q1
        have zq2 := q2
        rw [hF 0 (by decide)] at zq2
        have zq3 := q3
        rw [hF 0 (by decide)] at zq3
        rw [decide_eq_true (show s.2.2.2 < 8 ∧ F 0 ≤ 719 ∧ plT s < F 0 from ⟨(by have q9 := zq1; rw [show (8 : Int32) = nI 8 from rfl, nI_leI (by omega) (by omega)] at q9; omega), (Int32.not_lt.mp zq2), (Int32.not_le.mp zq3)⟩)]
        exact mjGo.ret 3 (fun _ => rfl) rfl
