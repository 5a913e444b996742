/-! town: the reference -/
def mR (I1 V J : Nat → Nat → Int32) : Prop := (∀ k, 44 ≤ k → k ≤ 52 → J k = V k) ∧ ∀ k j, k < 44 ∨ 52 < k → scq k j = false → J k j = I1 k j
theorem mR.u {I1 V J : Nat → Nat → Int32} {k j : Nat} {v : Int32} (h : mR I1 V J) (h1 : 44 ≤ k) (h2 : k ≤ 52) : mR I1 (mjU V k j v) (mjU J k j v) := by
  refine ⟨fun a ha hb => ?_, fun a b ha hb => ?_⟩
  · funext b
    unfold mjU
    rw [h.1 a ha hb]
  · rw [mjU_r (show a ≠ k by omega)]
    exact h.2 a b ha hb
theorem mR.sc {I1 V J J2 : Nat → Nat → Int32} (h : mR I1 V J) (e : eqO scq J J2) : mR I1 V J2 := by
  refine ⟨fun a ha hb => ?_, fun a b ha hb => (e a b hb).trans (h.2 a b ha hb)⟩
  rw [← h.1 a ha hb]
  funext b
  refine e a b ?_
  unfold scq
  have e1 : (a == 43) = false := by simp; omega
  have e2 : (a == 65) = false := by simp; omega
  rw [e1, e2]
  rfl
def mC119 (J : Nat → Nat → Int32) (n : Nat) (F : Nat → Int32) : Nat → Nat → Int32 := mjU (mjU (mjU (mjU J 45 n (F 0)) 46 n (F 1)) 47 n (F 2)) 44 0 (nI (n + 1))
def mC107 (J : Nat → Nat → Int32) (n : Nat) (F : Nat → Int32) : Nat → Nat → Int32 := mjU (mjU (mjU (mjU (mjU J 48 n (F 0)) 49 n (F 1)) 50 n (F 2)) 51 n (F 3)) 44 1 (nI (n + 1))
def mC108 (J : Nat → Nat → Int32) (F : Nat → Int32) : Nat → Nat → Int32 := mjU J 44 3 (F 0)
def mC112 (J : Nat → Nat → Int32) (n : Nat) (F : Nat → Int32) : Nat → Nat → Int32 := mjU (mjU J 52 n (F 0)) 44 2 (nI (n + 1))
theorem c_cm119 (d : Nat) {n : Nat} {F : Nat → Int32} {J : Nat → Nat → Int32} {X : MX} (h0 : J 44 0 = nI n) (hn : n < 5) (hF : ∀ i, i < 3 → J 65 i = F i) : mjEv d nyX12_come [.ref 43, .int 119] (mjH J X) (.inl none) (mjH (mC119 J n F) X) := by
  refine mjEv.of ?_
  show mjGo d nyX12_come 0 ([some (.ref 43), some (.int 119)], [], mjH J X) _
  refine mjGo.run 8 (pc' := 46) (F' := ([some (.ref 43), some (.int 119)], [.int (J 44 0), .ref 45], mjH J X)) (fun _ => rfl) ?_
  refine mjGo.run 0 (pc' := 46) (F' := ([some (.ref 43), some (.int 119)], [.int (J 44 0), .ref 45], mjH J X)) (fun _ => rfl) ?_
  rw [show (J 44 0) = (nI n) from h0]
  refine mjGo.run 4 (pc' := 52) (F' := ([some (.ref 43), some (.int 119)], [.int (J 65 0), .int (nI n), .ref 45], mjH J X)) (fun _ => rfl) ?_
  refine mjGo.run 0 (pc' := 52) (F' := ([some (.ref 43), some (.int 119)], [.int (J 65 0), .int (nI n), .ref 45], mjH J X)) (fun _ => rfl) ?_
  rw [show (J 65 0) = (F 0) from hF 0 (by decide)]
  refine mjGo.op (pc' := 53) (F' := ([some (.ref 43), some (.int 119)], [], mjH (mjU J 45 n (F 0)) X)) (o := mjiast 53) rfl (fun _ => mjast_n (n := 5) (by omega) (by decide) (rfl) (rfl)) ?_
  refine mjGo.run 6 (pc' := 63) (F' := ([some (.ref 43), some (.int 119)], [.int (J 44 0), .ref 46], mjH (mjU J 45 n (F 0)) X)) (fun _ => rfl) ?_
  refine mjGo.run 0 (pc' := 63) (F' := ([some (.ref 43), some (.int 119)], [.int (J 44 0), .ref 46], mjH (mjU J 45 n (F 0)) X)) (fun _ => rfl) ?_
  rw [show (J 44 0) = (nI n) from h0]
  refine mjGo.run 4 (pc' := 69) (F' := ([some (.ref 43), some (.int 119)], [.int (J 65 1), .int (nI n), .ref 46], mjH (mjU J 45 n (F 0)) X)) (fun _ => rfl) ?_
  refine mjGo.run 0 (pc' := 69) (F' := ([some (.ref 43), some (.int 119)], [.int (J 65 1), .int (nI n), .ref 46], mjH (mjU J 45 n (F 0)) X)) (fun _ => rfl) ?_
  rw [show (J 65 1) = (F 1) from hF 1 (by decide)]
  refine mjGo.op (pc' := 70) (F' := ([some (.ref 43), some (.int 119)], [], mjH (mjU (mjU J 45 n (F 0)) 46 n (F 1)) X)) (o := mjiast 70) rfl (fun _ => mjast_n (n := 5) (by omega) (by decide) (rfl) (rfl)) ?_
  refine mjGo.run 6 (pc' := 80) (F' := ([some (.ref 43), some (.int 119)], [.int (J 44 0), .ref 47], mjH (mjU (mjU J 45 n (F 0)) 46 n (F 1)) X)) (fun _ => rfl) ?_
  refine mjGo.run 0 (pc' := 80) (F' := ([some (.ref 43), some (.int 119)], [.int (J 44 0), .ref 47], mjH (mjU (mjU J 45 n (F 0)) 46 n (F 1)) X)) (fun _ => rfl) ?_
  rw [show (J 44 0) = (nI n) from h0]
  refine mjGo.run 4 (pc' := 86) (F' := ([some (.ref 43), some (.int 119)], [.int (J 65 2), .int (nI n), .ref 47], mjH (mjU (mjU J 45 n (F 0)) 46 n (F 1)) X)) (fun _ => rfl) ?_
  refine mjGo.run 0 (pc' := 86) (F' := ([some (.ref 43), some (.int 119)], [.int (J 65 2), .int (nI n), .ref 47], mjH (mjU (mjU J 45 n (F 0)) 46 n (F 1)) X)) (fun _ => rfl) ?_
  rw [show (J 65 2) = (F 2) from hF 2 (by decide)]
  refine mjGo.op (pc' := 87) (F' := ([some (.ref 43), some (.int 119)], [], mjH (mjU (mjU (mjU J 45 n (F 0)) 46 n (F 1)) 47 n (F 2)) X)) (o := mjiast 87) rfl (fun _ => mjast_n (n := 5) (by omega) (by decide) (rfl) (rfl)) ?_
  refine mjGo.run 5 (pc' := 94) (F' := ([some (.ref 43), some (.int 119)], [.int (J 44 0), .int 0, .ref 44], mjH (mjU (mjU (mjU J 45 n (F 0)) 46 n (F 1)) 47 n (F 2)) X)) (fun _ => rfl) ?_
  refine mjGo.run 0 (pc' := 94) (F' := ([some (.ref 43), some (.int 119)], [.int (J 44 0), .int 0, .ref 44], mjH (mjU (mjU (mjU J 45 n (F 0)) 46 n (F 1)) 47 n (F 2)) X)) (fun _ => rfl) ?_
  rw [show (J 44 0) = (nI n) from h0]
  refine mjGo.run 2 (pc' := 96) (F' := ([some (.ref 43), some (.int 119)], [.int ((nI n) + 1), .int 0, .ref 44], mjH (mjU (mjU (mjU J 45 n (F 0)) 46 n (F 1)) 47 n (F 2)) X)) (fun _ => rfl) ?_
  refine mjGo.run 0 (pc' := 96) (F' := ([some (.ref 43), some (.int 119)], [.int ((nI n) + 1), .int 0, .ref 44], mjH (mjU (mjU (mjU J 45 n (F 0)) 46 n (F 1)) 47 n (F 2)) X)) (fun _ => rfl) ?_
  rw [show ((nI n) + 1) = (nI (n + 1)) from nI_1 n]
  exact mjGo.ret 3 (fun _ => rfl) rfl
theorem c_cm107 (d : Nat) {n : Nat} {F : Nat → Int32} {J : Nat → Nat → Int32} {X : MX} (h0 : J 44 1 = nI n) (hn : n < 6) (hF : ∀ i, i < 4 → J 65 i = F i) : mjEv d nyX12_come [.ref 43, .int 107] (mjH J X) (.inl none) (mjH (mC107 J n F) X) := by
  refine mjEv.of ?_
  show mjGo d nyX12_come 0 ([some (.ref 43), some (.int 107)], [], mjH J X) _
  refine mjGo.run 8 (pc' := 110) (F' := ([some (.ref 43), some (.int 107)], [.int (J 44 1), .ref 48], mjH J X)) (fun _ => rfl) ?_
  refine mjGo.run 0 (pc' := 110) (F' := ([some (.ref 43), some (.int 107)], [.int (J 44 1), .ref 48], mjH J X)) (fun _ => rfl) ?_
  rw [show (J 44 1) = (nI n) from h0]
  refine mjGo.run 4 (pc' := 116) (F' := ([some (.ref 43), some (.int 107)], [.int (J 65 0), .int (nI n), .ref 48], mjH J X)) (fun _ => rfl) ?_
  refine mjGo.run 0 (pc' := 116) (F' := ([some (.ref 43), some (.int 107)], [.int (J 65 0), .int (nI n), .ref 48], mjH J X)) (fun _ => rfl) ?_
  rw [show (J 65 0) = (F 0) from hF 0 (by decide)]
  refine mjGo.op (pc' := 117) (F' := ([some (.ref 43), some (.int 107)], [], mjH (mjU J 48 n (F 0)) X)) (o := mjiast 117) rfl (fun _ => mjast_n (n := 6) (by omega) (by decide) (rfl) (rfl)) ?_
  refine mjGo.run 6 (pc' := 127) (F' := ([some (.ref 43), some (.int 107)], [.int (J 44 1), .ref 49], mjH (mjU J 48 n (F 0)) X)) (fun _ => rfl) ?_
  refine mjGo.run 0 (pc' := 127) (F' := ([some (.ref 43), some (.int 107)], [.int (J 44 1), .ref 49], mjH (mjU J 48 n (F 0)) X)) (fun _ => rfl) ?_
  rw [show (J 44 1) = (nI n) from h0]
  refine mjGo.run 4 (pc' := 133) (F' := ([some (.ref 43), some (.int 107)], [.int (J 65 1), .int (nI n), .ref 49], mjH (mjU J 48 n (F 0)) X)) (fun _ => rfl) ?_
  refine mjGo.run 0 (pc' := 133) (F' := ([some (.ref 43), some (.int 107)], [.int (J 65 1), .int (nI n), .ref 49], mjH (mjU J 48 n (F 0)) X)) (fun _ => rfl) ?_
  rw [show (J 65 1) = (F 1) from hF 1 (by decide)]
  refine mjGo.op (pc' := 134) (F' := ([some (.ref 43), some (.int 107)], [], mjH (mjU (mjU J 48 n (F 0)) 49 n (F 1)) X)) (o := mjiast 134) rfl (fun _ => mjast_n (n := 6) (by omega) (by decide) (rfl) (rfl)) ?_
  refine mjGo.run 6 (pc' := 144) (F' := ([some (.ref 43), some (.int 107)], [.int (J 44 1), .ref 50], mjH (mjU (mjU J 48 n (F 0)) 49 n (F 1)) X)) (fun _ => rfl) ?_
  refine mjGo.run 0 (pc' := 144) (F' := ([some (.ref 43), some (.int 107)], [.int (J 44 1), .ref 50], mjH (mjU (mjU J 48 n (F 0)) 49 n (F 1)) X)) (fun _ => rfl) ?_
  rw [show (J 44 1) = (nI n) from h0]
  refine mjGo.run 4 (pc' := 150) (F' := ([some (.ref 43), some (.int 107)], [.int (J 65 2), .int (nI n), .ref 50], mjH (mjU (mjU J 48 n (F 0)) 49 n (F 1)) X)) (fun _ => rfl) ?_
  refine mjGo.run 0 (pc' := 150) (F' := ([some (.ref 43), some (.int 107)], [.int (J 65 2), .int (nI n), .ref 50], mjH (mjU (mjU J 48 n (F 0)) 49 n (F 1)) X)) (fun _ => rfl) ?_
  rw [show (J 65 2) = (F 2) from hF 2 (by decide)]
  refine mjGo.op (pc' := 151) (F' := ([some (.ref 43), some (.int 107)], [], mjH (mjU (mjU (mjU J 48 n (F 0)) 49 n (F 1)) 50 n (F 2)) X)) (o := mjiast 151) rfl (fun _ => mjast_n (n := 6) (by omega) (by decide) (rfl) (rfl)) ?_
  refine mjGo.run 6 (pc' := 161) (F' := ([some (.ref 43), some (.int 107)], [.int (J 44 1), .ref 51], mjH (mjU (mjU (mjU J 48 n (F 0)) 49 n (F 1)) 50 n (F 2)) X)) (fun _ => rfl) ?_
  refine mjGo.run 0 (pc' := 161) (F' := ([some (.ref 43), some (.int 107)], [.int (J 44 1), .ref 51], mjH (mjU (mjU (mjU J 48 n (F 0)) 49 n (F 1)) 50 n (F 2)) X)) (fun _ => rfl) ?_
  rw [show (J 44 1) = (nI n) from h0]
  refine mjGo.run 4 (pc' := 167) (F' := ([some (.ref 43), some (.int 107)], [.int (J 65 3), .int (nI n), .ref 51], mjH (mjU (mjU (mjU J 48 n (F 0)) 49 n (F 1)) 50 n (F 2)) X)) (fun _ => rfl) ?_
  refine mjGo.run 0 (pc' := 167) (F' := ([some (.ref 43), some (.int 107)], [.int (J 65 3), .int (nI n), .ref 51], mjH (mjU (mjU (mjU J 48 n (F 0)) 49 n (F 1)) 50 n (F 2)) X)) (fun _ => rfl) ?_
  rw [show (J 65 3) = (F 3) from hF 3 (by decide)]
  refine mjGo.op (pc' := 168) (F' := ([some (.ref 43), some (.int 107)], [], mjH (mjU (mjU (mjU (mjU J 48 n (F 0)) 49 n (F 1)) 50 n (F 2)) 51 n (F 3)) X)) (o := mjiast 168) rfl (fun _ => mjast_n (n := 6) (by omega) (by decide) (rfl) (rfl)) ?_
  refine mjGo.run 5 (pc' := 175) (F' := ([some (.ref 43), some (.int 107)], [.int (J 44 1), .int 1, .ref 44], mjH (mjU (mjU (mjU (mjU J 48 n (F 0)) 49 n (F 1)) 50 n (F 2)) 51 n (F 3)) X)) (fun _ => rfl) ?_
  refine mjGo.run 0 (pc' := 175) (F' := ([some (.ref 43), some (.int 107)], [.int (J 44 1), .int 1, .ref 44], mjH (mjU (mjU (mjU (mjU J 48 n (F 0)) 49 n (F 1)) 50 n (F 2)) 51 n (F 3)) X)) (fun _ => rfl) ?_
  rw [show (J 44 1) = (nI n) from h0]
  refine mjGo.run 2 (pc' := 177) (F' := ([some (.ref 43), some (.int 107)], [.int ((nI n) + 1), .int 1, .ref 44], mjH (mjU (mjU (mjU (mjU J 48 n (F 0)) 49 n (F 1)) 50 n (F 2)) 51 n (F 3)) X)) (fun _ => rfl) ?_
  refine mjGo.run 0 (pc' := 177) (F' := ([some (.ref 43), some (.int 107)], [.int ((nI n) + 1), .int 1, .ref 44], mjH (mjU (mjU (mjU (mjU J 48 n (F 0)) 49 n (F 1)) 50 n (F 2)) 51 n (F 3)) X)) (fun _ => rfl) ?_
  rw [show ((nI n) + 1) = (nI (n + 1)) from nI_1 n]
  exact mjGo.ret 3 (fun _ => rfl) rfl
theorem c_cm108 (d : Nat) {n : Nat} {F : Nat → Int32} {J : Nat → Nat → Int32} {X : MX} (hF : ∀ i, i < 1 → J 65 i = F i) : mjEv d nyX12_come [.ref 43, .int 108] (mjH J X) (.inl none) (mjH (mC108 J F) X) := by
  refine mjEv.of ?_
  show mjGo d nyX12_come 0 ([some (.ref 43), some (.int 108)], [], mjH J X) _
  refine mjGo.run 9 (pc' := 192) (F' := ([some (.ref 43), some (.int 108)], [.int (J 65 0), .int 3, .ref 44], mjH J X)) (fun _ => rfl) ?_
  refine mjGo.run 0 (pc' := 192) (F' := ([some (.ref 43), some (.int 108)], [.int (J 65 0), .int 3, .ref 44], mjH J X)) (fun _ => rfl) ?_
  rw [show (J 65 0) = (F 0) from hF 0 (by decide)]
  exact mjGo.ret 3 (fun _ => rfl) rfl
theorem c_cm112 (d : Nat) {n : Nat} {F : Nat → Int32} {J : Nat → Nat → Int32} {X : MX} (h0 : J 44 2 = nI n) (hn : n < 8) (hF : ∀ i, i < 1 → J 65 i = F i) : mjEv d nyX12_come [.ref 43, .int 112] (mjH J X) (.inl none) (mjH (mC112 J n F) X) := by
  refine mjEv.of ?_
  show mjGo d nyX12_come 0 ([some (.ref 43), some (.int 112)], [], mjH J X) _
  refine mjGo.run 8 (pc' := 206) (F' := ([some (.ref 43), some (.int 112)], [.int (J 44 2), .ref 52], mjH J X)) (fun _ => rfl) ?_
  refine mjGo.run 0 (pc' := 206) (F' := ([some (.ref 43), some (.int 112)], [.int (J 44 2), .ref 52], mjH J X)) (fun _ => rfl) ?_
  rw [show (J 44 2) = (nI n) from h0]
  refine mjGo.run 4 (pc' := 212) (F' := ([some (.ref 43), some (.int 112)], [.int (J 65 0), .int (nI n), .ref 52], mjH J X)) (fun _ => rfl) ?_
  refine mjGo.run 0 (pc' := 212) (F' := ([some (.ref 43), some (.int 112)], [.int (J 65 0), .int (nI n), .ref 52], mjH J X)) (fun _ => rfl) ?_
  rw [show (J 65 0) = (F 0) from hF 0 (by decide)]
  refine mjGo.op (pc' := 213) (F' := ([some (.ref 43), some (.int 112)], [], mjH (mjU J 52 n (F 0)) X)) (o := mjiast 213) rfl (fun _ => mjast_n (n := 8) (by omega) (by decide) (rfl) (rfl)) ?_
  refine mjGo.run 5 (pc' := 220) (F' := ([some (.ref 43), some (.int 112)], [.int (J 44 2), .int 2, .ref 44], mjH (mjU J 52 n (F 0)) X)) (fun _ => rfl) ?_
  refine mjGo.run 0 (pc' := 220) (F' := ([some (.ref 43), some (.int 112)], [.int (J 44 2), .int 2, .ref 44], mjH (mjU J 52 n (F 0)) X)) (fun _ => rfl) ?_
  rw [show (J 44 2) = (nI n) from h0]
  refine mjGo.run 2 (pc' := 222) (F' := ([some (.ref 43), some (.int 112)], [.int ((nI n) + 1), .int 2, .ref 44], mjH (mjU J 52 n (F 0)) X)) (fun _ => rfl) ?_
  refine mjGo.run 0 (pc' := 222) (F' := ([some (.ref 43), some (.int 112)], [.int ((nI n) + 1), .int 2, .ref 44], mjH (mjU J 52 n (F 0)) X)) (fun _ => rfl) ?_
  rw [show ((nI n) + 1) = (nI (n + 1)) from nI_1 n]
  exact mjGo.ret 2 (fun _ => rfl) rfl
theorem m_r3 {d e sz N : Nat} {g : Nat → Int32} {I1 : Nat → Nat → Int32} {X : MX} {o2 o3 o4 o5 o6 o7 o8 : Option Value} (he : e < 8) (hs : sz ≤ 100) (hf0 : I1 43 27 = nI (100 * e)) (ht0 : I1 43 28 = nI sz) (gm0 : ∀ q, q < sz → I1 69 (100 * e + q) = g q) (g0 : ∀ q, sz ≤ q → g q = 0) : ∀ (k p : Nat) (s s2 : TS) (J : Nat → Nat → Int32), sz + 1 ≤ p + k → p ≤ sz → VB s → wfT g sz k p → mR I1 s.1 J → J 43 29 = nI p → J 43 30 = 1 → tw g sz k p s = .inr s2 →
    mjGo (d + 3) nyX12_read 226 ([some (.ref 43), some (.int (nI N)), o2, o3, o4, o5, o6, o7, o8], [], mjH J X) (fun x => ∃ J, x = (.inl (some (.int (nI N))), mjH J X) ∧ mR I1 s2.1 J) := by
  intro k
  induction k with
  | zero => intro p s s2 J h1 h2; omega
  | succ k ih =>
    intro p s s2 J h1 h2 hVB hwf hR h29 h30 htw
    have h28 : J 43 28 = nI sz := (hR.2 43 28 (by omega) rfl).trans ht0
    by_cases hlt : p < sz
    · obtain ⟨hw, hwf⟩ := hwf hlt
      have ⟨hin, hadv⟩ := stE_in g0 h2
      have hadv := hadv hw
      obtain ⟨o9, h9, hev, J2, rfl, heq2, k29, k30, rfl, hF⟩ := c_mSt (d := d) (X := X) he hs ((hR.2 43 27 (by omega) rfl).trans hf0) h28 (fun q hq => (hR.2 69 _ (by omega) rfl).trans (gm0 q hq)) g0 h29 h30 h2
      have hF := hF hw
      have hR2 := hR.sc heq2
      rw [tw, if_pos hlt] at htw
      rw [hw] at k30
      cases hok : okB s (g p) (fld g p)
      · rw [hok, if_neg (by decide)] at htw
        cases htw
      rw [hok, if_pos rfl] at htw
      have hVB2 := stp_VB hVB (stE_lt hw) hok
      rcases stE_lt hw with hl | hl | hl | hl
      · rw [hl] at hev hF hok htw hVB2
        rw [okB_119, decide_eq_true_eq] at hok
        refine mjGo.run 4 (pc' := 234) (F' := ([some (.ref 43), some (.int (nI N)), o2, o3, o4, o5, o6, o7, o8], [.int (J 43 28), .int (J 43 29)], mjH J X)) (fun _ => rfl) ?_
        refine mjGo.run 1 (pc' := (bif decide ((J 43 28) ≤ (J 43 29)) then 248 else 237)) (F' := ([some (.ref 43), some (.int (nI N)), o2, o3, o4, o5, o6, o7, o8], [], mjH J X)) (fun _ => rfl) ?_
        refine mjGo.brF (by rw [h29, h28, nI_leI (by omega) (by omega)]; omega) ?_
        show mjGo _ _ 237 _ _
        refine mjGo.run 2 (pc' := 239) (F' := ([some (.ref 43), some (.int (nI N)), o2, o3, o4, o5, o6, o7, o8], [.ref 43, .ref 43], mjH J X)) (fun _ => rfl) ?_
        refine mjGo.call (n := 1) (j := 183) (nx := 242) (o := some (.int 119)) (h' := mjH J2 X) (fun _ => rfl) (hev) ?_
        show mjGo _ _ 242 ([some (.ref 43), some (.int (nI N)), o2, o3, o4, o5, o6, o7, o8], [.int 119, .ref 43], mjH J2 X) _
        refine mjGo.call (n := 2) (j := 185) (nx := 245) (o := none) (h' := mjH (mC119 J2 s.2.1 (fld g p)) X) (fun _ => rfl) (c_cm119 _ (n := s.2.1) (F := fld g p) ((congrFun (hR2.1 44 (by omega) (by omega)) 0).trans hVB.1.1) (by omega) hF) ?_
        show mjGo _ _ 245 ([some (.ref 43), some (.int (nI N)), o2, o3, o4, o5, o6, o7, o8], [], mjH (mC119 J2 s.2.1 (fld g p)) X) _
        refine mjGo.run 1 (pc' := 226) (F' := ([some (.ref 43), some (.int (nI N)), o2, o3, o4, o5, o6, o7, o8], [], mjH (mC119 J2 s.2.1 (fld g p)) X)) (fun _ => rfl) ?_
        have hR3 : mR I1 (stp s 119 (fld g p)).1 (mC119 J2 s.2.1 (fld g p)) := by rw [stp_119]; exact ((((hR2.u (by omega) (by omega)).u (by omega) (by omega)).u (by omega) (by omega)).u (by omega) (by omega))
        exact ih (stE g p).1 (stp s 119 (fld g p)) s2 (mC119 J2 s.2.1 (fld g p)) (by omega) hin hVB2 hwf hR3 k29 k30 htw
      · rw [hl] at hev hF hok htw hVB2
        rw [okB_107, decide_eq_true_eq] at hok
        refine mjGo.run 4 (pc' := 234) (F' := ([some (.ref 43), some (.int (nI N)), o2, o3, o4, o5, o6, o7, o8], [.int (J 43 28), .int (J 43 29)], mjH J X)) (fun _ => rfl) ?_
        refine mjGo.run 1 (pc' := (bif decide ((J 43 28) ≤ (J 43 29)) then 248 else 237)) (F' := ([some (.ref 43), some (.int (nI N)), o2, o3, o4, o5, o6, o7, o8], [], mjH J X)) (fun _ => rfl) ?_
        refine mjGo.brF (by rw [h29, h28, nI_leI (by omega) (by omega)]; omega) ?_
        show mjGo _ _ 237 _ _
        refine mjGo.run 2 (pc' := 239) (F' := ([some (.ref 43), some (.int (nI N)), o2, o3, o4, o5, o6, o7, o8], [.ref 43, .ref 43], mjH J X)) (fun _ => rfl) ?_
        refine mjGo.call (n := 1) (j := 183) (nx := 242) (o := some (.int 107)) (h' := mjH J2 X) (fun _ => rfl) (hev) ?_
        show mjGo _ _ 242 ([some (.ref 43), some (.int (nI N)), o2, o3, o4, o5, o6, o7, o8], [.int 107, .ref 43], mjH J2 X) _
        refine mjGo.call (n := 2) (j := 185) (nx := 245) (o := none) (h' := mjH (mC107 J2 s.2.2.1 (fld g p)) X) (fun _ => rfl) (c_cm107 _ (n := s.2.2.1) (F := fld g p) ((congrFun (hR2.1 44 (by omega) (by omega)) 1).trans hVB.1.2.1) (by omega) hF) ?_
        show mjGo _ _ 245 ([some (.ref 43), some (.int (nI N)), o2, o3, o4, o5, o6, o7, o8], [], mjH (mC107 J2 s.2.2.1 (fld g p)) X) _
        refine mjGo.run 1 (pc' := 226) (F' := ([some (.ref 43), some (.int (nI N)), o2, o3, o4, o5, o6, o7, o8], [], mjH (mC107 J2 s.2.2.1 (fld g p)) X)) (fun _ => rfl) ?_
        have hR3 : mR I1 (stp s 107 (fld g p)).1 (mC107 J2 s.2.2.1 (fld g p)) := by rw [stp_107]; exact (((((hR2.u (by omega) (by omega)).u (by omega) (by omega)).u (by omega) (by omega)).u (by omega) (by omega)).u (by omega) (by omega))
        exact ih (stE g p).1 (stp s 107 (fld g p)) s2 (mC107 J2 s.2.2.1 (fld g p)) (by omega) hin hVB2 hwf hR3 k29 k30 htw
      · rw [hl] at hev hF hok htw hVB2
        rw [okB_108, decide_eq_true_eq] at hok
        refine mjGo.run 4 (pc' := 234) (F' := ([some (.ref 43), some (.int (nI N)), o2, o3, o4, o5, o6, o7, o8], [.int (J 43 28), .int (J 43 29)], mjH J X)) (fun _ => rfl) ?_
        refine mjGo.run 1 (pc' := (bif decide ((J 43 28) ≤ (J 43 29)) then 248 else 237)) (F' := ([some (.ref 43), some (.int (nI N)), o2, o3, o4, o5, o6, o7, o8], [], mjH J X)) (fun _ => rfl) ?_
        refine mjGo.brF (by rw [h29, h28, nI_leI (by omega) (by omega)]; omega) ?_
        show mjGo _ _ 237 _ _
        refine mjGo.run 2 (pc' := 239) (F' := ([some (.ref 43), some (.int (nI N)), o2, o3, o4, o5, o6, o7, o8], [.ref 43, .ref 43], mjH J X)) (fun _ => rfl) ?_
        refine mjGo.call (n := 1) (j := 183) (nx := 242) (o := some (.int 108)) (h' := mjH J2 X) (fun _ => rfl) (hev) ?_
        show mjGo _ _ 242 ([some (.ref 43), some (.int (nI N)), o2, o3, o4, o5, o6, o7, o8], [.int 108, .ref 43], mjH J2 X) _
        refine mjGo.call (n := 2) (j := 185) (nx := 245) (o := none) (h' := mjH (mC108 J2 (fld g p)) X) (fun _ => rfl) (c_cm108 _ (n := 0) (F := fld g p)  hF) ?_
        show mjGo _ _ 245 ([some (.ref 43), some (.int (nI N)), o2, o3, o4, o5, o6, o7, o8], [], mjH (mC108 J2 (fld g p)) X) _
        refine mjGo.run 1 (pc' := 226) (F' := ([some (.ref 43), some (.int (nI N)), o2, o3, o4, o5, o6, o7, o8], [], mjH (mC108 J2 (fld g p)) X)) (fun _ => rfl) ?_
        have hR3 : mR I1 (stp s 108 (fld g p)).1 (mC108 J2 (fld g p)) := by rw [stp_108]; exact (hR2.u (by omega) (by omega))
        exact ih (stE g p).1 (stp s 108 (fld g p)) s2 (mC108 J2 (fld g p)) (by omega) hin hVB2 hwf hR3 k29 k30 htw
      · rw [hl] at hev hF hok htw hVB2
        rw [okB_112, decide_eq_true_eq] at hok
        refine mjGo.run 4 (pc' := 234) (F' := ([some (.ref 43), some (.int (nI N)), o2, o3, o4, o5, o6, o7, o8], [.int (J 43 28), .int (J 43 29)], mjH J X)) (fun _ => rfl) ?_
        refine mjGo.run 1 (pc' := (bif decide ((J 43 28) ≤ (J 43 29)) then 248 else 237)) (F' := ([some (.ref 43), some (.int (nI N)), o2, o3, o4, o5, o6, o7, o8], [], mjH J X)) (fun _ => rfl) ?_
        refine mjGo.brF (by rw [h29, h28, nI_leI (by omega) (by omega)]; omega) ?_
        show mjGo _ _ 237 _ _
        refine mjGo.run 2 (pc' := 239) (F' := ([some (.ref 43), some (.int (nI N)), o2, o3, o4, o5, o6, o7, o8], [.ref 43, .ref 43], mjH J X)) (fun _ => rfl) ?_
        refine mjGo.call (n := 1) (j := 183) (nx := 242) (o := some (.int 112)) (h' := mjH J2 X) (fun _ => rfl) (hev) ?_
        show mjGo _ _ 242 ([some (.ref 43), some (.int (nI N)), o2, o3, o4, o5, o6, o7, o8], [.int 112, .ref 43], mjH J2 X) _
        refine mjGo.call (n := 2) (j := 185) (nx := 245) (o := none) (h' := mjH (mC112 J2 s.2.2.2 (fld g p)) X) (fun _ => rfl) (c_cm112 _ (n := s.2.2.2) (F := fld g p) ((congrFun (hR2.1 44 (by omega) (by omega)) 2).trans hVB.1.2.2) (by omega) hF) ?_
        show mjGo _ _ 245 ([some (.ref 43), some (.int (nI N)), o2, o3, o4, o5, o6, o7, o8], [], mjH (mC112 J2 s.2.2.2 (fld g p)) X) _
        refine mjGo.run 1 (pc' := 226) (F' := ([some (.ref 43), some (.int (nI N)), o2, o3, o4, o5, o6, o7, o8], [], mjH (mC112 J2 s.2.2.2 (fld g p)) X)) (fun _ => rfl) ?_
        have hR3 : mR I1 (stp s 112 (fld g p)).1 (mC112 J2 s.2.2.2 (fld g p)) := by rw [stp_112]; exact ((hR2.u (by omega) (by omega)).u (by omega) (by omega))
        exact ih (stE g p).1 (stp s 112 (fld g p)) s2 (mC112 J2 s.2.2.2 (fld g p)) (by omega) hin hVB2 hwf hR3 k29 k30 htw
    · refine mjGo.run 4 (pc' := 234) (F' := ([some (.ref 43), some (.int (nI N)), o2, o3, o4, o5, o6, o7, o8], [.int (J 43 28), .int (J 43 29)], mjH J X)) (fun _ => rfl) ?_
      refine mjGo.run 1 (pc' := (bif decide ((J 43 28) ≤ (J 43 29)) then 248 else 237)) (F' := ([some (.ref 43), some (.int (nI N)), o2, o3, o4, o5, o6, o7, o8], [], mjH J X)) (fun _ => rfl) ?_
      refine mjGo.brT (by rw [h29, h28, nI_leI (by omega) (by omega)]; omega) ?_
      show mjGo _ _ 248 _ _
      rw [tw, if_neg hlt] at htw
      cases htw
      exact mjGo.ret 2 (fun _ => rfl) ⟨J, rfl, hR⟩
def twA (g : Nat → Int32) (sz : Nat) (s : TS) : Int32 := match (syn g sz (sz + 1) 0 0).1 with
  | some w => -1000 - nI w
  | none => match tw g sz (sz + 1) 0 s with
    | .inl q => -2000 - nI q
    | .inr _ => nI (syn g sz (sz + 1) 0 0).2
def twS (g : Nat → Int32) (sz : Nat) (s : TS) : TS := match (syn g sz (sz + 1) 0 0).1 with
  | some _ => s
  | none => match tw g sz (sz + 1) 0 s with
    | .inl _ => s
    | .inr s2 => s2
theorem twA_w {g : Nat → Int32} {sz w : Nat} {s : TS} (h : (syn g sz (sz + 1) 0 0).1 = some w) : twA g sz s = -1000 - nI w ∧ twS g sz s = s := by
  unfold twA twS
  rw [h]
  exact ⟨rfl, rfl⟩
theorem twA_q {g : Nat → Int32} {sz q : Nat} {s : TS} (h : (syn g sz (sz + 1) 0 0).1 = none) (h2 : tw g sz (sz + 1) 0 s = .inl q) : twA g sz s = -2000 - nI q ∧ twS g sz s = s := by
  unfold twA twS
  rw [h, h2]
  exact ⟨rfl, rfl⟩
theorem twA_y {g : Nat → Int32} {sz : Nat} {s s2 : TS} (h : (syn g sz (sz + 1) 0 0).1 = none) (h2 : tw g sz (sz + 1) 0 s = .inr s2) : twA g sz s = nI (syn g sz (sz + 1) 0 0).2 ∧ twS g sz s = s2 := by
  unfold twA twS
  rw [h, h2]
  exact ⟨rfl, rfl⟩
def mTwP (I : Nat → Nat → Int32) (X : MX) (g : Nat → Int32) (sz : Nat) (s : TS) (o : Option Value) (h2 : MH) : Prop := ∃ J, h2 = mjH J X ∧ o = some (.int (twA g sz s)) ∧ mR I (twS g sz s).1 J
theorem c_mRead {d e sz : Nat} {g : Nat → Int32} {I : Nat → Nat → Int32} {X : MX} {s : TS} (he : e < 8) (hs : sz ≤ 100) (hf : I 43 27 = nI (100 * e)) (ht : I 43 28 = nI sz) (gm : ∀ q, q < sz → I 69 (100 * e + q) = g q) (g0 : ∀ q, sz ≤ q → g q = 0) (hVB : VB s) (hV : ∀ k, 44 ≤ k → k ≤ 52 → I k = s.1 k) : mjEvP (d + 3) nyX12_read [.ref 43] (mjH I X) (mTwP I X g sz s) := by
  refine mjEvP.of ?_
  show mjGo (d + 3) nyX12_read 0 ([some (.ref 43), none, none, none, none, none, none, none, none], [], mjH I X) _
  refine mjGo.run 8 (pc' := 12) (F' := ([some (.ref 43), some (.int 0), none, none, none, none, none, none, none], [], mjH (mjU (mjU I 43 29 0) 43 30 1) X)) (fun _ => rfl) ?_
  have hRI : mR I s.1 I := ⟨hV, fun _ _ _ _ => rfl⟩
  refine m_r1 (d := d) (I0 := I) he hs hf ht gm g0 (sz + 1) 0 0 (mjU (mjU I 43 29 0) 43 30 1) (by omega) (by omega) ((eqO.rf.put rfl).put rfl) rfl rfl (fun w J hw heq => ?_) (fun hw J heq h30 => ?_)
  · obtain ⟨e1, e2⟩ := twA_w (s := s) hw
    exact ⟨_, rfl, J, rfl, by rw [e1], by rw [e2]; exact hRI.sc heq⟩
  · have hwf := syn_wf _ _ _ hw
    have hJV : ∀ k, 44 ≤ k → k ≤ 52 → J k = s.1 k := (hRI.sc heq).1
    have v0 : J 44 0 = nI s.2.1 := by rw [hJV 44 (by omega) (by omega)]; exact hVB.1.1
    have v1 : J 44 1 = nI s.2.2.1 := by rw [hJV 44 (by omega) (by omega)]; exact hVB.1.2.1
    have v2 : J 44 2 = nI s.2.2.2 := by rw [hJV 44 (by omega) (by omega)]; exact hVB.1.2.2
    obtain ⟨_, b1, b2, b3⟩ := hVB
    have hVB := (⟨⟨(congrFun (hJV 44 (by omega) (by omega)) 0).symm.trans v0, (congrFun (hJV 44 (by omega) (by omega)) 1).symm.trans v1, (congrFun (hJV 44 (by omega) (by omega)) 2).symm.trans v2⟩, b1, b2, b3⟩ : VB s)
    by_cases z1 : s.2.1 = 0
    · by_cases z2 : s.2.2.2 = 0
      · refine mjGo.run 4 (pc' := 60) (F' := ([some (.ref 43), some (.int (nI (syn g sz (sz + 1) 0 0).2)), none, none, none, none, none, none, none], [.int (J 44 0)], mjH J X)) (fun _ => rfl) ?_
        refine mjGo.run 0 (pc' := 60) (F' := ([some (.ref 43), some (.int (nI (syn g sz (sz + 1) 0 0).2)), none, none, none, none, none, none, none], [.int (J 44 0)], mjH J X)) (fun _ => rfl) ?_
        rw [show (J 44 0) = (nI s.2.1) from v0]
        refine mjGo.run 5 (pc' := 67) (F' := ([some (.ref 43), some (.int (nI (syn g sz (sz + 1) 0 0).2)), some (.int (nI s.2.1)), none, none, none, none, none, none], [.int (J 44 1)], mjH J X)) (fun _ => rfl) ?_
        refine mjGo.run 0 (pc' := 67) (F' := ([some (.ref 43), some (.int (nI (syn g sz (sz + 1) 0 0).2)), some (.int (nI s.2.1)), none, none, none, none, none, none], [.int (J 44 1)], mjH J X)) (fun _ => rfl) ?_
        rw [show (J 44 1) = (nI s.2.2.1) from v1]
        refine mjGo.run 5 (pc' := 74) (F' := ([some (.ref 43), some (.int (nI (syn g sz (sz + 1) 0 0).2)), some (.int (nI s.2.1)), some (.int (nI s.2.2.1)), none, none, none, none, none], [.int (J 44 2)], mjH J X)) (fun _ => rfl) ?_
        refine mjGo.run 0 (pc' := 74) (F' := ([some (.ref 43), some (.int (nI (syn g sz (sz + 1) 0 0).2)), some (.int (nI s.2.1)), some (.int (nI s.2.2.1)), none, none, none, none, none], [.int (J 44 2)], mjH J X)) (fun _ => rfl) ?_
        rw [show (J 44 2) = (nI s.2.2.2) from v2]
        refine mjGo.run 2 (pc' := 77) (F' := ([some (.ref 43), some (.int (nI (syn g sz (sz + 1) 0 0).2)), some (.int (nI s.2.1)), some (.int (nI s.2.2.1)), some (.int (nI s.2.2.2)), none, none, none, none], [.int (nI s.2.1)], mjH J X)) (fun _ => rfl) ?_
        refine mjGo.run 1 (pc' := (bif decide ((nI s.2.1) ≠ 0) then 84 else 80)) (F' := ([some (.ref 43), some (.int (nI (syn g sz (sz + 1) 0 0).2)), some (.int (nI s.2.1)), some (.int (nI s.2.2.1)), some (.int (nI s.2.2.2)), none, none, none, none], [], mjH J X)) (fun _ => rfl) ?_
        refine mjGo.brF (by rw [show (0 : Int32) = nI 0 from rfl, ne_eq, nI_eq (by omega) (by omega)]; omega) ?_
        show mjGo _ _ 80 _ _
        refine mjGo.run 2 (pc' := 92) (F' := ([some (.ref 43), some (.int (nI (syn g sz (sz + 1) 0 0).2)), some (.int (nI s.2.1)), some (.int (nI s.2.2.1)), some (.int (nI s.2.2.2)), none, none, none, none], [.int (-1)], mjH J X)) (fun _ => rfl) ?_
        refine mjGo.run 0 (pc' := 92) (F' := ([some (.ref 43), some (.int (nI (syn g sz (sz + 1) 0 0).2)), some (.int (nI s.2.1)), some (.int (nI s.2.2.1)), some (.int (nI s.2.2.2)), none, none, none, none], [.int (-1)], mjH J X)) (fun _ => rfl) ?_
        rw [show (-1) = (laT s) from (by unfold laT; rw [if_pos z1])]
        refine mjGo.run 2 (pc' := 96) (F' := ([some (.ref 43), some (.int (nI (syn g sz (sz + 1) 0 0).2)), some (.int (nI s.2.1)), some (.int (nI s.2.2.1)), some (.int (nI s.2.2.2)), some (.int (laT s)), none, none, none], [.int (nI s.2.2.2)], mjH J X)) (fun _ => rfl) ?_
        refine mjGo.run 1 (pc' := (bif decide ((nI s.2.2.2) ≠ 0) then 103 else 99)) (F' := ([some (.ref 43), some (.int (nI (syn g sz (sz + 1) 0 0).2)), some (.int (nI s.2.1)), some (.int (nI s.2.2.1)), some (.int (nI s.2.2.2)), some (.int (laT s)), none, none, none], [], mjH J X)) (fun _ => rfl) ?_
        refine mjGo.brF (by rw [show (0 : Int32) = nI 0 from rfl, ne_eq, nI_eq (by omega) (by omega)]; omega) ?_
        show mjGo _ _ 99 _ _
        refine mjGo.run 2 (pc' := 112) (F' := ([some (.ref 43), some (.int (nI (syn g sz (sz + 1) 0 0).2)), some (.int (nI s.2.1)), some (.int (nI s.2.2.1)), some (.int (nI s.2.2.2)), some (.int (laT s)), none, none, none], [.int (-1)], mjH J X)) (fun _ => rfl) ?_
        refine mjGo.run 0 (pc' := 112) (F' := ([some (.ref 43), some (.int (nI (syn g sz (sz + 1) 0 0).2)), some (.int (nI s.2.1)), some (.int (nI s.2.2.1)), some (.int (nI s.2.2.2)), some (.int (laT s)), none, none, none], [.int (-1)], mjH J X)) (fun _ => rfl) ?_
        rw [show (-1) = (plT s) from (by unfold plT; rw [if_pos z2])]
        refine mjGo.run 4 (pc' := 119) (F' := ([some (.ref 43), some (.int (nI (syn g sz (sz + 1) 0 0).2)), some (.int (nI s.2.1)), some (.int (nI s.2.2.1)), some (.int (nI s.2.2.2)), some (.int (laT s)), some (.int (plT s)), none, none], [], mjH (mjU J 43 29 0) X)) (fun _ => rfl) ?_
        refine m_r2 (d := d) (I0 := I) (N := (syn g sz (sz + 1) 0 0).2) he hs hf ht gm g0 (sz + 1) 0 s (mjU J 43 29 0) none none (by omega) (by omega) hVB hwf (heq.put rfl) rfl h30 (fun q J3 htw heq3 => ?_) (fun s2 htw J3 o2 o3 o4 o5 o6 o7 o8 heq3 h303 => ?_)
        · obtain ⟨e1, e2⟩ := twA_q hw htw
          exact ⟨_, rfl, J3, rfl, by rw [e1], by rw [e2]; exact hRI.sc heq3⟩
        · obtain ⟨e1, e2⟩ := twA_y hw htw
          refine mjGo.run 3 (pc' := 226) (F' := ([some (.ref 43), some (.int (nI (syn g sz (sz + 1) 0 0).2)), o2, o3, o4, o5, o6, o7, o8], [], mjH (mjU J3 43 29 0) X)) (fun _ => rfl) ?_
          obtain ⟨n9, x, hx, J4, rfl, hR4⟩ := m_r3 (d := d) (N := (syn g sz (sz + 1) 0 0).2) (X := X) (I1 := I) he hs hf ht gm g0 (sz + 1) 0 s s2 (mjU J3 43 29 0) (by omega) (by omega) hVB hwf (hRI.sc (heq3.put rfl)) rfl h303 htw
          exact ⟨n9, _, hx, _, rfl, J4, rfl, by rw [e1], by rw [e2]; exact hR4⟩
      · refine mjGo.run 4 (pc' := 60) (F' := ([some (.ref 43), some (.int (nI (syn g sz (sz + 1) 0 0).2)), none, none, none, none, none, none, none], [.int (J 44 0)], mjH J X)) (fun _ => rfl) ?_
        refine mjGo.run 0 (pc' := 60) (F' := ([some (.ref 43), some (.int (nI (syn g sz (sz + 1) 0 0).2)), none, none, none, none, none, none, none], [.int (J 44 0)], mjH J X)) (fun _ => rfl) ?_
        rw [show (J 44 0) = (nI s.2.1) from v0]
        refine mjGo.run 5 (pc' := 67) (F' := ([some (.ref 43), some (.int (nI (syn g sz (sz + 1) 0 0).2)), some (.int (nI s.2.1)), none, none, none, none, none, none], [.int (J 44 1)], mjH J X)) (fun _ => rfl) ?_
        refine mjGo.run 0 (pc' := 67) (F' := ([some (.ref 43), some (.int (nI (syn g sz (sz + 1) 0 0).2)), some (.int (nI s.2.1)), none, none, none, none, none, none], [.int (J 44 1)], mjH J X)) (fun _ => rfl) ?_
        rw [show (J 44 1) = (nI s.2.2.1) from v1]
        refine mjGo.run 5 (pc' := 74) (F' := ([some (.ref 43), some (.int (nI (syn g sz (sz + 1) 0 0).2)), some (.int (nI s.2.1)), some (.int (nI s.2.2.1)), none, none, none, none, none], [.int (J 44 2)], mjH J X)) (fun _ => rfl) ?_
        refine mjGo.run 0 (pc' := 74) (F' := ([some (.ref 43), some (.int (nI (syn g sz (sz + 1) 0 0).2)), some (.int (nI s.2.1)), some (.int (nI s.2.2.1)), none, none, none, none, none], [.int (J 44 2)], mjH J X)) (fun _ => rfl) ?_
        rw [show (J 44 2) = (nI s.2.2.2) from v2]
        refine mjGo.run 2 (pc' := 77) (F' := ([some (.ref 43), some (.int (nI (syn g sz (sz + 1) 0 0).2)), some (.int (nI s.2.1)), some (.int (nI s.2.2.1)), some (.int (nI s.2.2.2)), none, none, none, none], [.int (nI s.2.1)], mjH J X)) (fun _ => rfl) ?_
        refine mjGo.run 1 (pc' := (bif decide ((nI s.2.1) ≠ 0) then 84 else 80)) (F' := ([some (.ref 43), some (.int (nI (syn g sz (sz + 1) 0 0).2)), some (.int (nI s.2.1)), some (.int (nI s.2.2.1)), some (.int (nI s.2.2.2)), none, none, none, none], [], mjH J X)) (fun _ => rfl) ?_
        refine mjGo.brF (by rw [show (0 : Int32) = nI 0 from rfl, ne_eq, nI_eq (by omega) (by omega)]; omega) ?_
        show mjGo _ _ 80 _ _
        refine mjGo.run 2 (pc' := 92) (F' := ([some (.ref 43), some (.int (nI (syn g sz (sz + 1) 0 0).2)), some (.int (nI s.2.1)), some (.int (nI s.2.2.1)), some (.int (nI s.2.2.2)), none, none, none, none], [.int (-1)], mjH J X)) (fun _ => rfl) ?_
        refine mjGo.run 0 (pc' := 92) (F' := ([some (.ref 43), some (.int (nI (syn g sz (sz + 1) 0 0).2)), some (.int (nI s.2.1)), some (.int (nI s.2.2.1)), some (.int (nI s.2.2.2)), none, none, none, none], [.int (-1)], mjH J X)) (fun _ => rfl) ?_
        rw [show (-1) = (laT s) from (by unfold laT; rw [if_pos z1])]
        refine mjGo.run 2 (pc' := 96) (F' := ([some (.ref 43), some (.int (nI (syn g sz (sz + 1) 0 0).2)), some (.int (nI s.2.1)), some (.int (nI s.2.2.1)), some (.int (nI s.2.2.2)), some (.int (laT s)), none, none, none], [.int (nI s.2.2.2)], mjH J X)) (fun _ => rfl) ?_
        refine mjGo.run 1 (pc' := (bif decide ((nI s.2.2.2) ≠ 0) then 103 else 99)) (F' := ([some (.ref 43), some (.int (nI (syn g sz (sz + 1) 0 0).2)), some (.int (nI s.2.1)), some (.int (nI s.2.2.1)), some (.int (nI s.2.2.2)), some (.int (laT s)), none, none, none], [], mjH J X)) (fun _ => rfl) ?_
        refine mjGo.brT (by rw [show (0 : Int32) = nI 0 from rfl, ne_eq, nI_eq (by omega) (by omega)]; omega) ?_
        show mjGo _ _ 103 _ _
        refine mjGo.run 5 (pc' := 111) (F' := ([some (.ref 43), some (.int (nI (syn g sz (sz + 1) 0 0).2)), some (.int (nI s.2.1)), some (.int (nI s.2.2.1)), some (.int (nI s.2.2.2)), some (.int (laT s)), none, none, none], [.int ((nI s.2.2.2) - 1), .ref 52], mjH J X)) (fun _ => rfl) ?_
        refine mjGo.run 0 (pc' := 111) (F' := ([some (.ref 43), some (.int (nI (syn g sz (sz + 1) 0 0).2)), some (.int (nI s.2.1)), some (.int (nI s.2.2.1)), some (.int (nI s.2.2.2)), some (.int (laT s)), none, none, none], [.int ((nI s.2.2.2) - 1), .ref 52], mjH J X)) (fun _ => rfl) ?_
        rw [show ((nI s.2.2.2) - 1) = (nI (s.2.2.2 - 1)) from nI_subN (show 1 ≤ s.2.2.2 by omega) (by omega)]
        refine mjGo.op (pc' := 112) (F' := ([some (.ref 43), some (.int (nI (syn g sz (sz + 1) 0 0).2)), some (.int (nI s.2.1)), some (.int (nI s.2.2.1)), some (.int (nI s.2.2.2)), some (.int (laT s)), none, none, none], [.int (J 52 (s.2.2.2 - 1))], mjH J X)) (o := mjiald 112) rfl (fun _ => mjald_n (n := 8) (by omega) (by decide) (rfl) (rfl)) ?_
        refine mjGo.run 0 (pc' := 112) (F' := ([some (.ref 43), some (.int (nI (syn g sz (sz + 1) 0 0).2)), some (.int (nI s.2.1)), some (.int (nI s.2.2.1)), some (.int (nI s.2.2.2)), some (.int (laT s)), none, none, none], [.int (J 52 (s.2.2.2 - 1))], mjH J X)) (fun _ => rfl) ?_
        rw [show (J 52 (s.2.2.2 - 1)) = (plT s) from (by unfold plT; rw [if_neg z2, hJV 52 (by omega) (by omega)])]
        refine mjGo.run 4 (pc' := 119) (F' := ([some (.ref 43), some (.int (nI (syn g sz (sz + 1) 0 0).2)), some (.int (nI s.2.1)), some (.int (nI s.2.2.1)), some (.int (nI s.2.2.2)), some (.int (laT s)), some (.int (plT s)), none, none], [], mjH (mjU J 43 29 0) X)) (fun _ => rfl) ?_
        refine m_r2 (d := d) (I0 := I) (N := (syn g sz (sz + 1) 0 0).2) he hs hf ht gm g0 (sz + 1) 0 s (mjU J 43 29 0) none none (by omega) (by omega) hVB hwf (heq.put rfl) rfl h30 (fun q J3 htw heq3 => ?_) (fun s2 htw J3 o2 o3 o4 o5 o6 o7 o8 heq3 h303 => ?_)
        · obtain ⟨e1, e2⟩ := twA_q hw htw
          exact ⟨_, rfl, J3, rfl, by rw [e1], by rw [e2]; exact hRI.sc heq3⟩
        · obtain ⟨e1, e2⟩ := twA_y hw htw
          refine mjGo.run 3 (pc' := 226) (F' := ([some (.ref 43), some (.int (nI (syn g sz (sz + 1) 0 0).2)), o2, o3, o4, o5, o6, o7, o8], [], mjH (mjU J3 43 29 0) X)) (fun _ => rfl) ?_
          obtain ⟨n9, x, hx, J4, rfl, hR4⟩ := m_r3 (d := d) (N := (syn g sz (sz + 1) 0 0).2) (X := X) (I1 := I) he hs hf ht gm g0 (sz + 1) 0 s s2 (mjU J3 43 29 0) (by omega) (by omega) hVB hwf (hRI.sc (heq3.put rfl)) rfl h303 htw
          exact ⟨n9, _, hx, _, rfl, J4, rfl, by rw [e1], by rw [e2]; exact hR4⟩
    · by_cases z2 : s.2.2.2 = 0
      · refine mjGo.run 4 (pc' := 60) (F' := ([some (.ref 43), some (.int (nI (syn g sz (sz + 1) 0 0).2)), none, none, none, none, none, none, none], [.int (J 44 0)], mjH J X)) (fun _ => rfl) ?_
        refine mjGo.run 0 (pc' := 60) (F' := ([some (.ref 43), some (.int (nI (syn g sz (sz + 1) 0 0).2)), none, none, none, none, none, none, none], [.int (J 44 0)], mjH J X)) (fun _ => rfl) ?_
        rw [show (J 44 0) = (nI s.2.1) from v0]
        refine mjGo.run 5 (pc' := 67) (F' := ([some (.ref 43), some (.int (nI (syn g sz (sz + 1) 0 0).2)), some (.int (nI s.2.1)), none, none, none, none, none, none], [.int (J 44 1)], mjH J X)) (fun _ => rfl) ?_
        refine mjGo.run 0 (pc' := 67) (F' := ([some (.ref 43), some (.int (nI (syn g sz (sz + 1) 0 0).2)), some (.int (nI s.2.1)), none, none, none, none, none, none], [.int (J 44 1)], mjH J X)) (fun _ => rfl) ?_
        rw [show (J 44 1) = (nI s.2.2.1) from v1]
        refine mjGo.run 5 (pc' := 74) (F' := ([some (.ref 43), some (.int (nI (syn g sz (sz + 1) 0 0).2)), some (.int (nI s.2.1)), some (.int (nI s.2.2.1)), none, none, none, none, none], [.int (J 44 2)], mjH J X)) (fun _ => rfl) ?_
        refine mjGo.run 0 (pc' := 74) (F' := ([some (.ref 43), some (.int (nI (syn g sz (sz + 1) 0 0).2)), some (.int (nI s.2.1)), some (.int (nI s.2.2.1)), none, none, none, none, none], [.int (J 44 2)], mjH J X)) (fun _ => rfl) ?_
        rw [show (J 44 2) = (nI s.2.2.2) from v2]
        refine mjGo.run 2 (pc' := 77) (F' := ([some (.ref 43), some (.int (nI (syn g sz (sz + 1) 0 0).2)), some (.int (nI s.2.1)), some (.int (nI s.2.2.1)), some (.int (nI s.2.2.2)), none, none, none, none], [.int (nI s.2.1)], mjH J X)) (fun _ => rfl) ?_
        refine mjGo.run 1 (pc' := (bif decide ((nI s.2.1) ≠ 0) then 84 else 80)) (F' := ([some (.ref 43), some (.int (nI (syn g sz (sz + 1) 0 0).2)), some (.int (nI s.2.1)), some (.int (nI s.2.2.1)), some (.int (nI s.2.2.2)), none, none, none, none], [], mjH J X)) (fun _ => rfl) ?_
        refine mjGo.brT (by rw [show (0 : Int32) = nI 0 from rfl, ne_eq, nI_eq (by omega) (by omega)]; omega) ?_
        show mjGo _ _ 84 _ _
        refine mjGo.run 5 (pc' := 91) (F' := ([some (.ref 43), some (.int (nI (syn g sz (sz + 1) 0 0).2)), some (.int (nI s.2.1)), some (.int (nI s.2.2.1)), some (.int (nI s.2.2.2)), none, none, none, none], [.int ((nI s.2.1) - 1), .ref 45], mjH J X)) (fun _ => rfl) ?_
        refine mjGo.run 0 (pc' := 91) (F' := ([some (.ref 43), some (.int (nI (syn g sz (sz + 1) 0 0).2)), some (.int (nI s.2.1)), some (.int (nI s.2.2.1)), some (.int (nI s.2.2.2)), none, none, none, none], [.int ((nI s.2.1) - 1), .ref 45], mjH J X)) (fun _ => rfl) ?_
        rw [show ((nI s.2.1) - 1) = (nI (s.2.1 - 1)) from nI_subN (show 1 ≤ s.2.1 by omega) (by omega)]
        refine mjGo.op (pc' := 92) (F' := ([some (.ref 43), some (.int (nI (syn g sz (sz + 1) 0 0).2)), some (.int (nI s.2.1)), some (.int (nI s.2.2.1)), some (.int (nI s.2.2.2)), none, none, none, none], [.int (J 45 (s.2.1 - 1))], mjH J X)) (o := mjiald 92) rfl (fun _ => mjald_n (n := 5) (by omega) (by decide) (rfl) (rfl)) ?_
        refine mjGo.run 0 (pc' := 92) (F' := ([some (.ref 43), some (.int (nI (syn g sz (sz + 1) 0 0).2)), some (.int (nI s.2.1)), some (.int (nI s.2.2.1)), some (.int (nI s.2.2.2)), none, none, none, none], [.int (J 45 (s.2.1 - 1))], mjH J X)) (fun _ => rfl) ?_
        rw [show (J 45 (s.2.1 - 1)) = (laT s) from (by unfold laT; rw [if_neg z1, hJV 45 (by omega) (by omega)])]
        refine mjGo.run 2 (pc' := 96) (F' := ([some (.ref 43), some (.int (nI (syn g sz (sz + 1) 0 0).2)), some (.int (nI s.2.1)), some (.int (nI s.2.2.1)), some (.int (nI s.2.2.2)), some (.int (laT s)), none, none, none], [.int (nI s.2.2.2)], mjH J X)) (fun _ => rfl) ?_
        refine mjGo.run 1 (pc' := (bif decide ((nI s.2.2.2) ≠ 0) then 103 else 99)) (F' := ([some (.ref 43), some (.int (nI (syn g sz (sz + 1) 0 0).2)), some (.int (nI s.2.1)), some (.int (nI s.2.2.1)), some (.int (nI s.2.2.2)), some (.int (laT s)), none, none, none], [], mjH J X)) (fun _ => rfl) ?_
        refine mjGo.brF (by rw [show (0 : Int32) = nI 0 from rfl, ne_eq, nI_eq (by omega) (by omega)]; omega) ?_
        show mjGo _ _ 99 _ _
        refine mjGo.run 2 (pc' := 112) (F' := ([some (.ref 43), some (.int (nI (syn g sz (sz + 1) 0 0).2)), some (.int (nI s.2.1)), some (.int (nI s.2.2.1)), some (.int (nI s.2.2.2)), some (.int (laT s)), none, none, none], [.int (-1)], mjH J X)) (fun _ => rfl) ?_
        refine mjGo.run 0 (pc' := 112) (F' := ([some (.ref 43), some (.int (nI (syn g sz (sz + 1) 0 0).2)), some (.int (nI s.2.1)), some (.int (nI s.2.2.1)), some (.int (nI s.2.2.2)), some (.int (laT s)), none, none, none], [.int (-1)], mjH J X)) (fun _ => rfl) ?_
        rw [show (-1) = (plT s) from (by unfold plT; rw [if_pos z2])]
        refine mjGo.run 4 (pc' := 119) (F' := ([some (.ref 43), some (.int (nI (syn g sz (sz + 1) 0 0).2)), some (.int (nI s.2.1)), some (.int (nI s.2.2.1)), some (.int (nI s.2.2.2)), some (.int (laT s)), some (.int (plT s)), none, none], [], mjH (mjU J 43 29 0) X)) (fun _ => rfl) ?_
        refine m_r2 (d := d) (I0 := I) (N := (syn g sz (sz + 1) 0 0).2) he hs hf ht gm g0 (sz + 1) 0 s (mjU J 43 29 0) none none (by omega) (by omega) hVB hwf (heq.put rfl) rfl h30 (fun q J3 htw heq3 => ?_) (fun s2 htw J3 o2 o3 o4 o5 o6 o7 o8 heq3 h303 => ?_)
        · obtain ⟨e1, e2⟩ := twA_q hw htw
          exact ⟨_, rfl, J3, rfl, by rw [e1], by rw [e2]; exact hRI.sc heq3⟩
        · obtain ⟨e1, e2⟩ := twA_y hw htw
          refine mjGo.run 3 (pc' := 226) (F' := ([some (.ref 43), some (.int (nI (syn g sz (sz + 1) 0 0).2)), o2, o3, o4, o5, o6, o7, o8], [], mjH (mjU J3 43 29 0) X)) (fun _ => rfl) ?_
          obtain ⟨n9, x, hx, J4, rfl, hR4⟩ := m_r3 (d := d) (N := (syn g sz (sz + 1) 0 0).2) (X := X) (I1 := I) he hs hf ht gm g0 (sz + 1) 0 s s2 (mjU J3 43 29 0) (by omega) (by omega) hVB hwf (hRI.sc (heq3.put rfl)) rfl h303 htw
          exact ⟨n9, _, hx, _, rfl, J4, rfl, by rw [e1], by rw [e2]; exact hR4⟩
      · refine mjGo.run 4 (pc' := 60) (F' := ([some (.ref 43), some (.int (nI (syn g sz (sz + 1) 0 0).2)), none, none, none, none, none, none, none], [.int (J 44 0)], mjH J X)) (fun _ => rfl) ?_
        refine mjGo.run 0 (pc' := 60) (F' := ([some (.ref 43), some (.int (nI (syn g sz (sz + 1) 0 0).2)), none, none, none, none, none, none, none], [.int (J 44 0)], mjH J X)) (fun _ => rfl) ?_
        rw [show (J 44 0) = (nI s.2.1) from v0]
        refine mjGo.run 5 (pc' := 67) (F' := ([some (.ref 43), some (.int (nI (syn g sz (sz + 1) 0 0).2)), some (.int (nI s.2.1)), none, none, none, none, none, none], [.int (J 44 1)], mjH J X)) (fun _ => rfl) ?_
        refine mjGo.run 0 (pc' := 67) (F' := ([some (.ref 43), some (.int (nI (syn g sz (sz + 1) 0 0).2)), some (.int (nI s.2.1)), none, none, none, none, none, none], [.int (J 44 1)], mjH J X)) (fun _ => rfl) ?_
        rw [show (J 44 1) = (nI s.2.2.1) from v1]
        refine mjGo.run 5 (pc' := 74) (F' := ([some (.ref 43), some (.int (nI (syn g sz (sz + 1) 0 0).2)), some (.int (nI s.2.1)), some (.int (nI s.2.2.1)), none, none, none, none, none], [.int (J 44 2)], mjH J X)) (fun _ => rfl) ?_
        refine mjGo.run 0 (pc' := 74) (F' := ([some (.ref 43), some (.int (nI (syn g sz (sz + 1) 0 0).2)), some (.int (nI s.2.1)), some (.int (nI s.2.2.1)), none, none, none, none, none], [.int (J 44 2)], mjH J X)) (fun _ => rfl) ?_
        rw [show (J 44 2) = (nI s.2.2.2) from v2]
        refine mjGo.run 2 (pc' := 77) (F' := ([some (.ref 43), some (.int (nI (syn g sz (sz + 1) 0 0).2)), some (.int (nI s.2.1)), some (.int (nI s.2.2.1)), some (.int (nI s.2.2.2)), none, none, none, none], [.int (nI s.2.1)], mjH J X)) (fun _ => rfl) ?_
        refine mjGo.run 1 (pc' := (bif decide ((nI s.2.1) ≠ 0) then 84 else 80)) (F' := ([some (.ref 43), some (.int (nI (syn g sz (sz + 1) 0 0).2)), some (.int (nI s.2.1)), some (.int (nI s.2.2.1)), some (.int (nI s.2.2.2)), none, none, none, none], [], mjH J X)) (fun _ => rfl) ?_
        refine mjGo.brT (by rw [show (0 : Int32) = nI 0 from rfl, ne_eq, nI_eq (by omega) (by omega)]; omega) ?_
        show mjGo _ _ 84 _ _
        refine mjGo.run 5 (pc' := 91) (F' := ([some (.ref 43), some (.int (nI (syn g sz (sz + 1) 0 0).2)), some (.int (nI s.2.1)), some (.int (nI s.2.2.1)), some (.int (nI s.2.2.2)), none, none, none, none], [.int ((nI s.2.1) - 1), .ref 45], mjH J X)) (fun _ => rfl) ?_
        refine mjGo.run 0 (pc' := 91) (F' := ([some (.ref 43), some (.int (nI (syn g sz (sz + 1) 0 0).2)), some (.int (nI s.2.1)), some (.int (nI s.2.2.1)), some (.int (nI s.2.2.2)), none, none, none, none], [.int ((nI s.2.1) - 1), .ref 45], mjH J X)) (fun _ => rfl) ?_
        rw [show ((nI s.2.1) - 1) = (nI (s.2.1 - 1)) from nI_subN (show 1 ≤ s.2.1 by omega) (by omega)]
        refine mjGo.op (pc' := 92) (F' := ([some (.ref 43), some (.int (nI (syn g sz (sz + 1) 0 0).2)), some (.int (nI s.2.1)), some (.int (nI s.2.2.1)), some (.int (nI s.2.2.2)), none, none, none, none], [.int (J 45 (s.2.1 - 1))], mjH J X)) (o := mjiald 92) rfl (fun _ => mjald_n (n := 5) (by omega) (by decide) (rfl) (rfl)) ?_
        refine mjGo.run 0 (pc' := 92) (F' := ([some (.ref 43), some (.int (nI (syn g sz (sz + 1) 0 0).2)), some (.int (nI s.2.1)), some (.int (nI s.2.2.1)), some (.int (nI s.2.2.2)), none, none, none, none], [.int (J 45 (s.2.1 - 1))], mjH J X)) (fun _ => rfl) ?_
        rw [show (J 45 (s.2.1 - 1)) = (laT s) from (by unfold laT; rw [if_neg z1, hJV 45 (by omega) (by omega)])]
        refine mjGo.run 2 (pc' := 96) (F' := ([some (.ref 43), some (.int (nI (syn g sz (sz + 1) 0 0).2)), some (.int (nI s.2.1)), some (.int (nI s.2.2.1)), some (.int (nI s.2.2.2)), some (.int (laT s)), none, none, none], [.int (nI s.2.2.2)], mjH J X)) (fun _ => rfl) ?_
        refine mjGo.run 1 (pc' := (bif decide ((nI s.2.2.2) ≠ 0) then 103 else 99)) (F' := ([some (.ref 43), some (.int (nI (syn g sz (sz + 1) 0 0).2)), some (.int (nI s.2.1)), some (.int (nI s.2.2.1)), some (.int (nI s.2.2.2)), some (.int (laT s)), none, none, none], [], mjH J X)) (fun _ => rfl) ?_
        refine mjGo.brT (by rw [show (0 : Int32) = nI 0 from rfl, ne_eq, nI_eq (by omega) (by omega)]; omega) ?_
        show mjGo _ _ 103 _ _
        refine mjGo.run 5 (pc' := 111) (F' := ([some (.ref 43), some (.int (nI (syn g sz (sz + 1) 0 0).2)), some (.int (nI s.2.1)), some (.int (nI s.2.2.1)), some (.int (nI s.2.2.2)), some (.int (laT s)), none, none, none], [.int ((nI s.2.2.2) - 1), .ref 52], mjH J X)) (fun _ => rfl) ?_
        refine mjGo.run 0 (pc' := 111) (F' := ([some (.ref 43), some (.int (nI (syn g sz (sz + 1) 0 0).2)), some (.int (nI s.2.1)), some (.int (nI s.2.2.1)), some (.int (nI s.2.2.2)), some (.int (laT s)), none, none, none], [.int ((nI s.2.2.2) - 1), .ref 52], mjH J X)) (fun _ => rfl) ?_
        rw [show ((nI s.2.2.2) - 1) = (nI (s.2.2.2 - 1)) from nI_subN (show 1 ≤ s.2.2.2 by omega) (by omega)]
        refine mjGo.op (pc' := 112) (F' := ([some (.ref 43), some (.int (nI (syn g sz (sz + 1) 0 0).2)), some (.int (nI s.2.1)), some (.int (nI s.2.2.1)), some (.int (nI s.2.2.2)), some (.int (laT s)), none, none, none], [.int (J 52 (s.2.2.2 - 1))], mjH J X)) (o := mjiald 112) rfl (fun _ => mjald_n (n := 8) (by omega) (by decide) (rfl) (rfl)) ?_
        refine mjGo.run 0 (pc' := 112) (F' := ([some (.ref 43), some (.int (nI (syn g sz (sz + 1) 0 0).2)), some (.int (nI s.2.1)), some (.int (nI s.2.2.1)), some (.int (nI s.2.2.2)), some (.int (laT s)), none, none, none], [.int (J 52 (s.2.2.2 - 1))], mjH J X)) (fun _ => rfl) ?_
        rw [show (J 52 (s.2.2.2 - 1)) = (plT s) from (by unfold plT; rw [if_neg z2, hJV 52 (by omega) (by omega)])]
        refine mjGo.run 4 (pc' := 119) (F' := ([some (.ref 43), some (.int (nI (syn g sz (sz + 1) 0 0).2)), some (.int (nI s.2.1)), some (.int (nI s.2.2.1)), some (.int (nI s.2.2.2)), some (.int (laT s)), some (.int (plT s)), none, none], [], mjH (mjU J 43 29 0) X)) (fun _ => rfl) ?_
        refine m_r2 (d := d) (I0 := I) (N := (syn g sz (sz + 1) 0 0).2) he hs hf ht gm g0 (sz + 1) 0 s (mjU J 43 29 0) none none (by omega) (by omega) hVB hwf (heq.put rfl) rfl h30 (fun q J3 htw heq3 => ?_) (fun s2 htw J3 o2 o3 o4 o5 o6 o7 o8 heq3 h303 => ?_)
        · obtain ⟨e1, e2⟩ := twA_q hw htw
          exact ⟨_, rfl, J3, rfl, by rw [e1], by rw [e2]; exact hRI.sc heq3⟩
        · obtain ⟨e1, e2⟩ := twA_y hw htw
          refine mjGo.run 3 (pc' := 226) (F' := ([some (.ref 43), some (.int (nI (syn g sz (sz + 1) 0 0).2)), o2, o3, o4, o5, o6, o7, o8], [], mjH (mjU J3 43 29 0) X)) (fun _ => rfl) ?_
          obtain ⟨n9, x, hx, J4, rfl, hR4⟩ := m_r3 (d := d) (N := (syn g sz (sz + 1) 0 0).2) (X := X) (I1 := I) he hs hf ht gm g0 (sz + 1) 0 s s2 (mjU J3 43 29 0) (by omega) (by omega) hVB hwf (hRI.sc (heq3.put rfl)) rfl h303 htw
          exact ⟨n9, _, hx, _, rfl, J4, rfl, by rw [e1], by rw [e2]; exact hR4⟩
