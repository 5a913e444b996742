/-! the class: a day -/
theorem mjU_ob {α : Type} {f : Nat → Nat → α} {k j a b : Nat} {v : α} (h : a ≠ k) : mjU f k j v a b = f a b := if_neg h
theorem mjU_row {α : Type} {f : Nat → Nat → α} {k j a : Nat} {v : α} (h : a ≠ k) : mjU f k j v a = f a := funext fun b => if_neg h
def mkX (X : MX) : MX := (mjU X.1 19 2 (some 1), X.2)
theorem putP_town {I : Nat → Nat → Int32} {X : MX} {al : List (Option Value)} {st : List Value} {nx : Nat} {call : MCall} : mjputP [3] 2 nx call (al, .ref 1 :: .ref 19 :: st, mjH I X) = some (.inl (nx, (al, st, mjH I (mkX X)))) := by
  unfold mjputP
  show (some (.inl (nx, (al, st, mjsP (mjH I X) 19 2 (some 1)))) : Option ((Nat × MF) ⊕ (MO × MH))) = _
  have e : mjU (mjfP X.1) 19 2 (some 1) = mjfP (mjU X.1 19 2 (some 1)) := by
    funext a j
    unfold mjU mjfP
    by_cases h1 : a = 19
    · subst h1
      rw [if_pos rfl]
      by_cases h2 : j = 2
      · subst h2
        rfl
      · rw [if_neg h2]
        show _ = (match mjfix 19 j with | some k => some k | none => if 19 = 19 then (if j = 2 then some 1 else X.1 19 j) else X.1 19 j)
        rw [if_pos rfl, if_neg h2]
        rfl
    · rw [if_neg h1]
      show _ = (match mjfix a j with | some k => some k | none => if a = 19 then (if j = 2 then some 1 else X.1 a j) else X.1 a j)
      rw [if_neg h1]
      rfl
  unfold mjsP mjH mkX
  dsimp only
  rw [e]
theorem mkX_at {X : MX} : (mkX X).1 19 2 = some 1 := rfl
theorem mkX_mk {X : MX} : mkX (mkX X) = mkX X := by
  unfold mkX
  congr 1
  funext a b
  unfold mjU
  dsimp only
  by_cases h1 : a = 19
  · rw [if_pos h1]
    by_cases h2 : b = 2
    · rw [if_pos h2, if_pos h1, if_pos h2]
    · rw [if_neg h2, if_pos h1]
  · rw [if_neg h1, if_neg h1]
def lkK (X : MX) (a kd : Nat) : Prop := 75 ≤ a ∧ a < X.2.2.2.1 + 75 ∧ X.2.2.1 a = (lkc kd, 0) ∧ kd < 8
theorem lkK_get {I2 : Nat → Nat → Int32} {X : MX} {a kd j nx : Nat} {v : Int32} {al : List (Option Value)} {st : List Value} {call : MCall} (h : lkK X a kd) (hv : I2 a j = v) : mjgetI [0, 1, 2, 4, 5, 7, 8, 9] j nx call (al, .ref a :: st, mjH I2 X) = some (.inl (nx, (al, .int v :: st, mjH I2 X))) := by
  unfold mjgetI
  show (bif Nat.blt a (mjN (mjH I2 X)) && [0, 1, 2, 4, 5, 7, 8, 9].contains (mjT (mjH I2 X) a).1 then (some (.inl (nx, (al, .int (I2 a j) :: st, mjH I2 X))) : Option ((Nat × MF) ⊕ (MO × MH))) else none) = _
  rw [mjH_T h.1, h.2.2.1, lkc_in h.2.2.2, Nat.blt_eq.mpr (show a < mjN (mjH I2 X) from h.2.1), hv]
  rfl
theorem wk_lat {as f dr law aim : Int32} {row : Nat → Int32} {np : Nat} : ∀ (n m l : Nat) (once : Int32) (a : wkA), m + n = 720 → l ≤ 719 → (wk as f dr law aim row np n m l once a).2.1 ≤ 719
  | 0, m, l, once, a, _, h => h
  | n + 1, m, l, once, a, hn, h => by
    rw [wk]
    cases wkW as f dr law aim row np m l once
    · dsimp only [cond_false]
      cases wkG as f dr aim m l
      · exact wk_lat n (m + 1) l once a (by omega) h
      · exact h
    · dsimp only [cond_true]
      cases wkG as f dr aim m m
      · exact wk_lat n (m + 1) m 1 _ (by omega) (by omega)
      · show m ≤ 719
        omega
theorem dyS_lat {as fg dr w law : Int32} {atr wl fi row : Nat → Int32} {np wn n : Nat} (hw : wn ≤ 719) (ho : okW atr wl n) : ∀ k, k ≤ n → (dyS as fg dr w law atr wl fi row np wn k).2.1 ≤ 719
  | 0, _ => hw
  | k + 1, hk => by
    rw [dyS]
    split
    · exact dyS_lat hw ho k (by omega)
    · have h1 := dyS_free (as := as) (fg := fg) (dr := dr) (w := w) (law := law) (fi := fi) (row := row) (np := np) hw ho k (by omega)
      exact wk_lat _ _ _ _ _ (by omega) (dyS_lat hw ho k (by omega))
def xHas (n k : Int32) : Int32 := if k < 0 then 0 else if 5 ≤ k then 0 else if n ≤ k then 0 else 1
theorem z_xHas (n k : Int32) : xHas n k = 0 ∨ xHas n k = 1 := by
  unfold xHas
  repeat' split
  all_goals first | exact Or.inl rfl | exact Or.inr rfl
theorem xHas_1 {k n : Nat} (h : k < n) (hn : n ≤ 5) : xHas (nI n) (nI k) = 1 := by
  unfold xHas
  rw [if_neg (nI_pos (by omega)), show (5 : Int32) = nI 5 from rfl, if_neg (by rw [nI_leI (by omega) (by omega)]; omega), if_neg (by rw [nI_leI (by omega) (by omega)]; omega)]
theorem c_xHas (d : Nat) {I : Nat → Nat → Int32} {X : MX} (k : Int32) : mjEv d nyX10_hasWork [.ref 1, .int k] (mjH I X) (.inl (some (.int (xHas (I 1 5) k)))) (mjH I X) := by
  refine mjEv.of ?_
  show mjGo d nyX10_hasWork 0 ([some (.ref 1), some (.int k)], [], mjH I X) _
  refine mjGo.run 2 (pc' := (bif decide (k < 0) then 21 else 4)) (F' := ([some (.ref 1), some (.int k)], [], mjH I X)) (fun _ => rfl) ?_
  refine mjGo.br (fun q1 => ?_) (fun q1 => ?_)
  · show mjGo _ _ 21 _ _
    have e9 : xHas (I 1 5) k = 0 := by unfold xHas; rw [if_pos q1]
    rw [e9]
    exact mjGo.ret 2 (fun _ => rfl) rfl
  · show mjGo _ _ 4 _ _
    refine mjGo.run 3 (pc' := (bif decide (5 ≤ k) then 21 else 9)) (F' := ([some (.ref 1), some (.int k)], [], mjH I X)) (fun _ => rfl) ?_
    refine mjGo.br (fun q2 => ?_) (fun q2 => ?_)
    · show mjGo _ _ 21 _ _
      have e9 : xHas (I 1 5) k = 0 := by unfold xHas; rw [if_neg q1, if_pos q2]
      rw [e9]
      exact mjGo.ret 2 (fun _ => rfl) rfl
    · show mjGo _ _ 9 _ _
      refine mjGo.run 4 (pc' := (bif decide ((I 1 5) ≤ k) then 21 else 17)) (F' := ([some (.ref 1), some (.int k)], [], mjH I X)) (fun _ => rfl) ?_
      refine mjGo.br (fun q3 => ?_) (fun q3 => ?_)
      · show mjGo _ _ 21 _ _
        have e9 : xHas (I 1 5) k = 0 := by unfold xHas; rw [if_neg q1, if_neg q2, if_pos q3]
        rw [e9]
        exact mjGo.ret 2 (fun _ => rfl) rfl
      · show mjGo _ _ 17 _ _
        have e9 : xHas (I 1 5) k = 1 := by unfold xHas; rw [if_neg q1, if_neg q2, if_neg q3]
        rw [e9]
        exact mjGo.ret 3 (fun _ => rfl) rfl
def cmS (I : Nat → Nat → Int32) (k : Nat) (v : Int32) : Nat → Nat → Int32 := (mjU (mjU (mjU (mjU (mjU I 21 k v) 19 10 ((I 19 10) + (mjmax 0 (v - (I 2 k))))) 19 11 ((I 19 11) + (mjmax 0 ((I 2 k) - v)))) 19 9 ((I 19 9) + ((mjmax 0 (v - (I 2 k))) * (I 4 k)))) 19 7 (mjmin 719 (mjmax v (I 2 k))))
theorem c_xCm (d : Nat) {k n9 : Nat} {v : Int32} {I : Nat → Nat → Int32} {X : MX} (hP : X.1 19 2 = some 1) (hn : I 1 5 = nI n9) (hn5 : n9 ≤ 5) (hk : k < n9) : mjEv (d + 1) nyX3_comeTo [.ref 19, .int (nI k), .int v] (mjH I X) (.inl none) (mjH (cmS I k v) X) := by
  have hx : xHas (I 1 5) (nI k) = 1 := by rw [hn, xHas_1 hk hn5]
  refine mjEv.of ?_
  show mjGo (d + 1) nyX3_comeTo 0 ([some (.ref 19), some (.int (nI k)), some (.int v), none, none], [], mjH I X) _
  refine mjGo.run 1 (pc' := 1) (F' := ([some (.ref 19), some (.int (nI k)), some (.int v), none, none], [.ref 19], mjH I X)) (fun _ => rfl) ?_
  refine mjGo.op (pc' := 4) (F' := ([some (.ref 19), some (.int (nI k)), some (.int v), none, none], [.ref 1], mjH I X)) (o := mjgetP [3] 2 4) rfl (fun _ => getP_town hP) ?_
  refine mjGo.run 2 (pc' := 8) (F' := ([some (.ref 19), some (.int (nI k)), some (.int v), none, none], [.ref 19], mjH I X)) (fun _ => rfl) ?_
  refine mjGo.op (pc' := 11) (F' := ([some (.ref 19), some (.int (nI k)), some (.int v), none, none], [.ref 1], mjH I X)) (o := mjgetP [3] 2 11) rfl (fun _ => getP_town hP) ?_
  refine mjGo.run 1 (pc' := 12) (F' := ([some (.ref 19), some (.int (nI k)), some (.int v), none, none], [.int (nI k), .ref 1], mjH I X)) (fun _ => rfl) ?_
  refine mjGo.call (n := 2) (j := 41) (nx := 15) (o := some (.int (xHas (I 1 5) (nI k)))) (h' := mjH I X) (fun _ => rfl) (c_xHas _ _) ?_
  show mjGo _ _ 15 ([some (.ref 19), some (.int (nI k)), some (.int v), none, none], [.int (xHas (I 1 5) (nI k))], mjH I X) _
  refine mjGo.run 1 (pc' := (bif decide ((xHas (I 1 5) (nI k)) ≠ 0) then 19 else 18)) (F' := ([some (.ref 19), some (.int (nI k)), some (.int v), none, none], [], mjH I X)) (fun _ => rfl) ?_
  refine mjGo.br (fun q1 => ?_) (fun q1 => ?_)
  · show mjGo _ _ 19 _ _
    refine mjGo.run 1 (pc' := 20) (F' := ([some (.ref 19), some (.int (nI k)), some (.int v), none, none], [.ref 19], mjH I X)) (fun _ => rfl) ?_
    refine mjGo.op (pc' := 23) (F' := ([some (.ref 19), some (.int (nI k)), some (.int v), none, none], [.ref 1], mjH I X)) (o := mjgetP [3] 2 23) rfl (fun _ => getP_town hP) ?_
    refine mjGo.run 2 (pc' := 27) (F' := ([some (.ref 19), some (.int (nI k)), some (.int v), none, none], [.int (nI k), .ref 2], mjH I X)) (fun _ => rfl) ?_
    refine mjGo.op (pc' := 28) (F' := ([some (.ref 19), some (.int (nI k)), some (.int v), none, none], [.int (I 2 k)], mjH I X)) (o := mjiald 28) rfl (fun _ => mjald_n (n := 5) (by omega) (by decide) (rfl) (rfl)) ?_
    refine mjGo.run 11 (pc' := 44) (F' := ([some (.ref 19), some (.int (nI k)), some (.int v), some (.int (I 2 k)), some (.int (mjmax 0 (v - (I 2 k))))], [.int v, .int (nI k), .ref 21], mjH I X)) (fun _ => rfl) ?_
    refine mjGo.op (pc' := 45) (F' := ([some (.ref 19), some (.int (nI k)), some (.int v), some (.int (I 2 k)), some (.int (mjmax 0 (v - (I 2 k))))], [], mjH (mjU I 21 k v) X)) (o := mjiast 45) rfl (fun _ => mjast_n (n := 5) (by omega) (by decide) (rfl) (rfl)) ?_
    refine mjGo.run 21 (pc' := 80) (F' := ([some (.ref 19), some (.int (nI k)), some (.int v), some (.int (I 2 k)), some (.int (mjmax 0 (v - (I 2 k))))], [.ref 19, .int (mjmax 0 (v - (I 2 k))), .int (I 19 9), .ref 19], mjH (mjU (mjU (mjU I 21 k v) 19 10 ((I 19 10) + (mjmax 0 (v - (I 2 k))))) 19 11 ((I 19 11) + (mjmax 0 ((I 2 k) - v)))) X)) (fun _ => rfl) ?_
    refine mjGo.op (pc' := 83) (F' := ([some (.ref 19), some (.int (nI k)), some (.int v), some (.int (I 2 k)), some (.int (mjmax 0 (v - (I 2 k))))], [.ref 1, .int (mjmax 0 (v - (I 2 k))), .int (I 19 9), .ref 19], mjH (mjU (mjU (mjU I 21 k v) 19 10 ((I 19 10) + (mjmax 0 (v - (I 2 k))))) 19 11 ((I 19 11) + (mjmax 0 ((I 2 k) - v)))) X)) (o := mjgetP [3] 2 83) rfl (fun _ => getP_town hP) ?_
    refine mjGo.run 2 (pc' := 87) (F' := ([some (.ref 19), some (.int (nI k)), some (.int v), some (.int (I 2 k)), some (.int (mjmax 0 (v - (I 2 k))))], [.int (nI k), .ref 4, .int (mjmax 0 (v - (I 2 k))), .int (I 19 9), .ref 19], mjH (mjU (mjU (mjU I 21 k v) 19 10 ((I 19 10) + (mjmax 0 (v - (I 2 k))))) 19 11 ((I 19 11) + (mjmax 0 ((I 2 k) - v)))) X)) (fun _ => rfl) ?_
    refine mjGo.op (pc' := 88) (F' := ([some (.ref 19), some (.int (nI k)), some (.int v), some (.int (I 2 k)), some (.int (mjmax 0 (v - (I 2 k))))], [.int (I 4 k), .int (mjmax 0 (v - (I 2 k))), .int (I 19 9), .ref 19], mjH (mjU (mjU (mjU I 21 k v) 19 10 ((I 19 10) + (mjmax 0 (v - (I 2 k))))) 19 11 ((I 19 11) + (mjmax 0 ((I 2 k) - v)))) X)) (o := mjiald 88) rfl (fun _ => mjald_n (n := 5) (by omega) (by decide) (rfl) (rfl)) ?_
    exact mjGo.ret 11 (fun _ => rfl) rfl
  · show mjGo _ _ 18 _ _
    rw [hx] at q1
    exact absurd (by decide) q1
def xDS (I : Nat → Nat → Int32) (s : dyT) (k : Nat) : Prop := xSc I s.2.2.2.2.1 s.2.1 s.2.2.1 ∧ I 19 7 = nI s.1 ∧ I 19 10 = s.2.2.2.1 ∧ I 19 11 = s.2.2.2.2.2.1 ∧ ∀ j, j < k → I 21 j = s.2.2.2.2.2.2 j
def scy (k j : Nat) : Bool := (k == 19 && Nat.ble 6 j) || (k == 20 || k == 21)
def scz (k j : Nat) : Bool := k == 19 || (k == 20 || k == 21)
theorem sck_scy : ∀ k j, sck k j = true → scy k j = true := by
  intro k j h
  unfold sck at h
  unfold scy
  simp at h ⊢
  rcases h with ⟨h1, h2⟩ | h
  · refine Or.inl ⟨h1, ?_⟩
    omega
  · exact Or.inr (Or.inl h)
theorem scy_scz : ∀ k j, scy k j = true → scz k j = true := by
  intro k j h
  unfold scy at h
  unfold scz
  simp at h ⊢
  rcases h with ⟨h1, h2⟩ | h
  · exact Or.inl h1
  · exact Or.inr h
theorem xEn.eq2 {I J : Nat → Nat → Int32} {X : MX} {a kd np : Nat} {fg dr : Int32} {lw : Nat} (h : xEn I X a kd np fg dr lw) (e : eqO scy I J) : xEn J X a kd np fg dr lw := by
  obtain ⟨h1, h2, h3, h4, h5, h6, h7, h8, h9⟩ := h
  exact ⟨h1, h2, (e 1 7 rfl).trans h3, by rw [e.row (k := 6) (fun j => rfl)]; exact h4, (e 19 3 rfl).trans h5, (e 19 4 rfl).trans h6, h7, (e 19 5 rfl).trans h8, h9⟩
theorem eqO_a {s : Nat → Nat → Bool} {I J : Nat → Nat → Int32} (h : eqO s I J) (hs : ∀ k j, s k j = true → k < 75) {a : Nat} (ha : 75 ≤ a) (j : Nat) : J a j = I a j := h a j (by
  cases e : s a j
  · rfl
  · have := hs a j e
    omega)
theorem scy_lt : ∀ k j, scy k j = true → k < 75 := by
  intro k j h
  unfold scy at h
  simp at h
  omega
theorem scz_lt : ∀ k j, scz k j = true → k < 75 := by
  intro k j h
  unfold scz at h
  simp at h
  omega
theorem x_dy {d a kd np n9 wn lw : Nat} {I0 : Nat → Nat → Int32} {X : MX} {fg dr b3 b4 b5 : Int32} (he0 : xEn I0 X a kd np fg dr lw) (hwk0 : I0 a 3 = nI wn) (hwn : wn ≤ 719) (hn0 : I0 1 5 = nI n9) (hok : okW (I0 2) (I0 3) n9) : ∀ (fuel k : Nat) (I : Nat → Nat → Int32), n9 < k + fuel → k ≤ n9 → eqO scy I0 I → xDS I (dyS (asOf kd) fg dr (nI wn) (nI lw) (I0 2) (I0 3) (I0 4) (I0 6) np wn k) k →
    mjGo (d + 4) nyX3_liveBy 66 ([some (.ref 19), some (.ref 1), some (.ref a), some (.int b3), some (.int b4), some (.int b5), some (.int (nI k))], [], mjH I X) (fun x => ∃ J, x = (.inl none, mjH J X) ∧ eqO scy I0 J ∧ xDS J (dyS (asOf kd) fg dr (nI wn) (nI lw) (I0 2) (I0 3) (I0 4) (I0 6) np wn n9) n9) := by
  intro fuel
  induction fuel with
  | zero => intro k I h1 h2; omega
  | succ fuel ih =>
    intro k I h1 h2 heq hD
    have he := he0.eq2 heq
    obtain ⟨⟨ha75, haN, haT, hk⟩, hP, hnp, hop, hfg, hdr, hd, hlw, hl3⟩ := he
    have hn5 := hok.1
    have hwk : I a 3 = nI wn := (eqO_a heq scy_lt ha75 3).trans hwk0
    have hn : I 1 5 = nI n9 := (heq 1 5 rfl).trans hn0
    have r2 : I 2 = I0 2 := heq.row (fun j => rfl)
    have r3 : I 3 = I0 3 := heq.row (fun j => rfl)
    have r4 : I 4 = I0 4 := heq.row (fun j => rfl)
    have r6 : I 6 = I0 6 := heq.row (fun j => rfl)
    have hlk : lkK X a kd := ⟨ha75, haN, haT, hk⟩
    refine mjGo.run 2 (pc' := 69) (F' := ([some (.ref 19), some (.ref 1), some (.ref a), some (.int b3), some (.int b4), some (.int b5), some (.int (nI k))], [.int 5, .int (nI k)], mjH I X)) (fun _ => rfl) ?_
    refine mjGo.run 1 (pc' := (bif decide (5 ≤ (nI k)) then 147 else 72)) (F' := ([some (.ref 19), some (.ref 1), some (.ref a), some (.int b3), some (.int b4), some (.int b5), some (.int (nI k))], [], mjH I X)) (fun _ => rfl) ?_
    refine mjGo.br (fun w0 => ?_) (fun w0 => ?_)
    · rw [show (5 : Int32) = nI 5 from rfl, nI_leI (by omega) (by omega)] at w0
      have e : k = n9 := by omega
      subst e
      exact mjGo.ret 1 (fun _ => rfl) ⟨I, rfl, heq, hD⟩
    · rw [show (5 : Int32) = nI 5 from rfl, nI_leI (by omega) (by omega)] at w0
      show mjGo _ _ 72 _ _
      refine mjGo.run 3 (pc' := 78) (F' := ([some (.ref 19), some (.ref 1), some (.ref a), some (.int b3), some (.int b4), some (.int b5), some (.int (nI k))], [.int (I 1 5), .int (nI k)], mjH I X)) (fun _ => rfl) ?_
      refine mjGo.run 1 (pc' := (bif decide ((I 1 5) ≤ (nI k)) then 147 else 81)) (F' := ([some (.ref 19), some (.ref 1), some (.ref a), some (.int b3), some (.int b4), some (.int b5), some (.int (nI k))], [], mjH I X)) (fun _ => rfl) ?_
      refine mjGo.br (fun w1 => ?_) (fun w1 => ?_)
      · rw [hn, nI_leI (by omega) (by omega)] at w1
        have e : k = n9 := by omega
        subst e
        exact mjGo.ret 1 (fun _ => rfl) ⟨I, rfl, heq, hD⟩
      · rw [hn, nI_leI (by omega) (by omega)] at w1
        have hkn : k < n9 := by omega
        show mjGo _ _ 81 _ _
        refine mjGo.run 3 (pc' := 87) (F' := ([some (.ref 19), some (.ref 1), some (.ref a), some (.int b3), some (.int b4), some (.int b5), some (.int (nI k))], [.int (nI k), .ref 2], mjH I X)) (fun _ => rfl) ?_
        refine mjGo.op (pc' := 88) (F' := ([some (.ref 19), some (.ref 1), some (.ref a), some (.int b3), some (.int b4), some (.int b5), some (.int (nI k))], [.int (I 2 k)], mjH I X)) (o := mjiald 88) rfl (fun _ => mjald_n (n := 5) (by omega) (by decide) (rfl) (rfl)) ?_
        refine mjGo.run 1 (pc' := 89) (F' := ([some (.ref 19), some (.ref 1), some (.ref a), some (.int b3), some (.int b4), some (.int b5), some (.int (nI k))], [.ref a, .int (I 2 k)], mjH I X)) (fun _ => rfl) ?_
        refine mjGo.op (pc' := 92) (F' := ([some (.ref 19), some (.ref 1), some (.ref a), some (.int b3), some (.int b4), some (.int b5), some (.int (nI k))], [.int (nI wn), .int (I 2 k)], mjH I X)) (o := mjgetI [0, 1, 2, 4, 5, 7, 8, 9] 3 92) rfl (fun _ => lkK_get hlk hwk) ?_
        refine mjGo.run 1 (pc' := (bif decide ((nI wn) ≤ (I 2 k)) then 107 else 95)) (F' := ([some (.ref 19), some (.ref 1), some (.ref a), some (.int b3), some (.int b4), some (.int b5), some (.int (nI k))], [], mjH I X)) (fun _ => rfl) ?_
        refine mjGo.br (fun w2 => ?_) (fun w2 => ?_)
        · have hlt : ¬ I0 2 k < nI wn := by rw [← r2]; exact Int32.not_lt.mpr w2
          have hst : dyS (asOf kd) fg dr (nI wn) (nI lw) (I0 2) (I0 3) (I0 4) (I0 6) np wn (k + 1) = dyN (asOf kd) fg dr (nI lw) (I0 2) (I0 3) (I0 4) (I0 6) np k (dyS (asOf kd) fg dr (nI wn) (nI lw) (I0 2) (I0 3) (I0 4) (I0 6) np wn k) := by rw [dyS, if_neg hlt]
          obtain ⟨hS, hD1, hD2, hD3, hD4⟩ := hD
          have h13 := Nat.le_trans (dyS_len (as := asOf kd) (fg := fg) (dr := dr) (w := nI wn) (law := nI lw) (atr := I0 2) (wl := I0 3) (fi := I0 4) (row := I0 6) (np := np) (wn := wn) (k + 1) n9 hkn) (dyS_len13 hwn hok (by rw [← r6]; exact hop))
          rw [hst] at h13
          have hfr := dyS_free (as := asOf kd) (fg := fg) (dr := dr) (w := nI wn) (law := nI lw) (fi := I0 4) (row := I0 6) (np := np) hwn hok k h2
          have hlt2 := dyS_lat (as := asOf kd) (fg := fg) (dr := dr) (w := nI wn) (law := nI lw) (fi := I0 4) (row := I0 6) (np := np) hwn hok k h2
          have hfr2 := (dy_free (g := (dyR (asOf kd) fg dr (nI lw) (I0 2) (I0 3) (I0 6) np k (dyS (asOf kd) fg dr (nI wn) (nI lw) (I0 2) (I0 3) (I0 4) (I0 6) np wn k)).1) (a := I0 3 k) (b := I0 2 k) (by have := wk_min (as := asOf kd) (f := fg) (dr := dr) (law := nI lw) (aim := I0 2 k - I0 3 k) (row := I0 6) (np := np) (720 - (dyS (asOf kd) fg dr (nI wn) (nI lw) (I0 2) (I0 3) (I0 4) (I0 6) np wn k).1) (dyS (asOf kd) fg dr (nI wn) (nI lw) (I0 2) (I0 3) (I0 4) (I0 6) np wn k).1 (dyS (asOf kd) fg dr (nI wn) (nI lw) (I0 2) (I0 3) (I0 4) (I0 6) np wn k).2.1 0 (dyS (asOf kd) fg dr (nI wn) (nI lw) (I0 2) (I0 3) (I0 4) (I0 6) np wn k).2.2.1; unfold dyR; omega) (hok.2 k hkn).2 (hok.2 k hkn).1).1
          skip
          generalize hs0 : dyS (asOf kd) fg dr (nI wn) (nI lw) (I0 2) (I0 3) (I0 4) (I0 6) np wn k = s at hst h13 hfr hlt2 hfr2 hS hD1 hD2 hD3 hD4
          show mjGo _ _ 107 _ _
          refine mjGo.run 7 (pc' := 118) (F' := ([some (.ref 19), some (.ref 1), some (.ref a), some (.int b3), some (.int b4), some (.int b5), some (.int (nI k))], [.int (nI k), .ref 2, .ref a, .ref 19, .int (nI k), .ref 19], mjH I X)) (fun _ => rfl) ?_
          refine mjGo.op (pc' := 119) (F' := ([some (.ref 19), some (.ref 1), some (.ref a), some (.int b3), some (.int b4), some (.int b5), some (.int (nI k))], [.int (I 2 k), .ref a, .ref 19, .int (nI k), .ref 19], mjH I X)) (o := mjiald 119) rfl (fun _ => mjald_n (n := 5) (by omega) (by decide) (rfl) (rfl)) ?_
          refine mjGo.run 3 (pc' := 125) (F' := ([some (.ref 19), some (.ref 1), some (.ref a), some (.int b3), some (.int b4), some (.int b5), some (.int (nI k))], [.int (nI k), .ref 3, .int (I 2 k), .ref a, .ref 19, .int (nI k), .ref 19], mjH I X)) (fun _ => rfl) ?_
          refine mjGo.op (pc' := 126) (F' := ([some (.ref 19), some (.ref 1), some (.ref a), some (.int b3), some (.int b4), some (.int b5), some (.int (nI k))], [.int (I 3 k), .int (I 2 k), .ref a, .ref 19, .int (nI k), .ref 19], mjH I X)) (o := mjiald 126) rfl (fun _ => mjald_n (n := 5) (by omega) (by decide) (rfl) (rfl)) ?_
          refine mjGo.run 1 (pc' := 127) (F' := ([some (.ref 19), some (.ref 1), some (.ref a), some (.int b3), some (.int b4), some (.int b5), some (.int (nI k))], [.int ((I 2 k) - (I 3 k)), .ref a, .ref 19, .int (nI k), .ref 19], mjH I X)) (fun _ => rfl) ?_
          obtain ⟨o9, h9, hev, J, rfl, heJ, hSJ, rfl⟩ := c_xGo d (aim := I 2 k - I 3 k) (he0.eq2 heq) hD1 hfr hlt2 hS (by rw [r2, r3, r6]; exact h13)
          refine mjGo.call (n := 3) (j := 40) (nx := 130) (o := _) (h' := mjH J X) (fun _ => rfl) hev ?_
          show mjGo _ _ 130 ([some (.ref 19), some (.ref 1), some (.ref a), some (.int b3), some (.int b4), some (.int b5), some (.int (nI k))], [.int (nI (wk (asOf kd) fg dr (nI lw) (I 2 k - I 3 k) (I 6) np (720 - s.1) s.1 s.2.1 0 s.2.2.1).1), .int (nI k), .ref 19], mjH J X) _
          have hR2 : (wk (asOf kd) fg dr (nI lw) (I 2 k - I 3 k) (I 6) np (720 - s.1) s.1 s.2.1 0 s.2.2.1) = (dyR (asOf kd) fg dr (nI lw) (I0 2) (I0 3) (I0 6) np k s) := by rw [r2, r3, r6]; rfl
          rw [hR2] at hSJ ⊢
          generalize hR : (dyR (asOf kd) fg dr (nI lw) (I0 2) (I0 3) (I0 6) np k s) = R at *
          have j2 : J 2 = I0 2 := (heJ.row (fun j => rfl)).trans r2
          have j3 : J 3 = I0 3 := (heJ.row (fun j => rfl)).trans r3
          have j4 : J 4 = I0 4 := (heJ.row (fun j => rfl)).trans r4
          have jn : J 1 5 = nI n9 := (heJ 1 5 rfl).trans hn
          refine mjGo.run 3 (pc' := 136) (F' := ([some (.ref 19), some (.ref 1), some (.ref a), some (.int b3), some (.int b4), some (.int b5), some (.int (nI k))], [.int (nI k), .ref 3, .int (nI R.1), .int (nI k), .ref 19], mjH J X)) (fun _ => rfl) ?_
          refine mjGo.op (pc' := 137) (F' := ([some (.ref 19), some (.ref 1), some (.ref a), some (.int b3), some (.int b4), some (.int b5), some (.int (nI k))], [.int (J 3 k), .int (nI R.1), .int (nI k), .ref 19], mjH J X)) (o := mjiald 137) rfl (fun _ => mjald_n (n := 5) (by omega) (by decide) (rfl) (rfl)) ?_
          refine mjGo.run 1 (pc' := 138) (F' := ([some (.ref 19), some (.ref 1), some (.ref a), some (.int b3), some (.int b4), some (.int b5), some (.int (nI k))], [.int ((nI R.1) + (J 3 k)), .int (nI k), .ref 19], mjH J X)) (fun _ => rfl) ?_
          refine mjGo.call (n := 3) (j := 42) (nx := 141) (o := none) (h' := mjH (cmS J k ((nI R.1) + (J 3 k))) X) (fun _ => rfl) (c_xCm _ hP jn hn5 hkn) ?_
          show mjGo _ _ 141 ([some (.ref 19), some (.ref 1), some (.ref a), some (.int b3), some (.int b4), some (.int b5), some (.int (nI k))], [], mjH (cmS J k ((nI R.1) + (J 3 k))) X) _
          refine mjGo.run 2 (pc' := 66) (F' := ([some (.ref 19), some (.ref 1), some (.ref a), some (.int b3), some (.int b4), some (.int b5), some (.int ((nI k) + 1))], [], mjH (cmS J k ((nI R.1) + (J 3 k))) X)) (fun _ => rfl) ?_
          have k9 := ih (k + 1) (cmS J k (nI R.1 + J 3 k)) (by omega) hkn (by unfold cmS; exact (((((heq.trans (heJ.mono sck_scy)).put rfl).put rfl).put rfl).put rfl).put rfl) (by
            obtain ⟨q1, q2, q3, q4, q5⟩ := hSJ
            have j10 : J 19 10 = s.2.2.2.1 := (heJ 19 10 rfl).trans hD2
            have j11 : J 19 11 = s.2.2.2.2.2.1 := (heJ 19 11 rfl).trans hD3
            have j21 : ∀ j, J 21 j = I 21 j := fun j => heJ 21 j rfl
            rw [hst]
            unfold dyN
            rw [hR]
            refine ⟨⟨q1, q2, ?_, q4, q5⟩, ?_, ?_, ?_, fun j hj => ?_⟩
            · show J 19 9 + mjmax 0 ((nI R.1 + J 3 k) - J 2 k) * J 4 k = s.2.2.2.2.1 + mjmax 0 (nI R.1 + I0 3 k - I0 2 k) * I0 4 k + R.2.2.1
              rw [q3, j2, j3, j4, Int32.add_assoc, Int32.add_comm R.2.2.1, ← Int32.add_assoc]
            · show mjmin 719 (mjmax (nI R.1 + J 3 k) (J 2 k)) = _
              rw [j2, j3]
              exact hfr2
            · show J 19 10 + mjmax 0 ((nI R.1 + J 3 k) - J 2 k) = s.2.2.2.1 + mjmax 0 (nI R.1 + I0 3 k - I0 2 k)
              rw [j10, j2, j3]
            · show J 19 11 + mjmax 0 (J 2 k - (nI R.1 + J 3 k)) = s.2.2.2.2.2.1 + mjmax 0 (I0 2 k - (nI R.1 + I0 3 k))
              rw [j11, j2, j3]
            · show (if j = k then (nI R.1 + J 3 k) else J 21 j) = upd s.2.2.2.2.2.2 k (nI R.1 + I0 3 k) j
              unfold upd
              by_cases e : j = k
              · rw [if_pos e, if_pos e, j3]
              · rw [if_neg e, if_neg e, j21]
                exact hD4 j (by omega))
          rw [← nI_1] at k9
          exact k9
        · have hlt : I0 2 k < nI wn := by rw [← r2]; exact Int32.not_le.mp w2
          have hst : dyS (asOf kd) fg dr (nI wn) (nI lw) (I0 2) (I0 3) (I0 4) (I0 6) np wn (k + 1) = dyO k (dyS (asOf kd) fg dr (nI wn) (nI lw) (I0 2) (I0 3) (I0 4) (I0 6) np wn k) := by rw [dyS, if_pos hlt]
          show mjGo _ _ 95 _ _
          refine mjGo.run 4 (pc' := 103) (F' := ([some (.ref 19), some (.ref 1), some (.ref a), some (.int b3), some (.int b4), some (.int b5), some (.int (nI k))], [.int (-4), .int (nI k), .ref 21], mjH I X)) (fun _ => rfl) ?_
          refine mjGo.op (pc' := 104) (F' := ([some (.ref 19), some (.ref 1), some (.ref a), some (.int b3), some (.int b4), some (.int b5), some (.int (nI k))], [], mjH (mjU I 21 k (-4)) X)) (o := mjiast 104) rfl (fun _ => mjast_n (n := 5) (by omega) (by decide) (rfl) (rfl)) ?_
          refine mjGo.run 3 (pc' := 66) (F' := ([some (.ref 19), some (.ref 1), some (.ref a), some (.int b3), some (.int b4), some (.int b5), some (.int ((nI k) + 1))], [], mjH (mjU I 21 k (-4)) X)) (fun _ => rfl) ?_
          have k9 := ih (k + 1) (mjU I 21 k (-4)) (by omega) hkn (heq.put rfl) (by
            obtain ⟨hS, hD1, hD2, hD3, hD4⟩ := hD
            rw [hst]
            refine ⟨hS, hD1, hD2, hD3, fun j hj => ?_⟩
            show (if j = k then -4 else I 21 j) = upd _ k (-4) j
            unfold upd
            by_cases e : j = k
            · rw [if_pos e, if_pos e]
            · rw [if_neg e, if_neg e]
              exact hD4 j (by omega))
          rw [← nI_1] at k9
          exact k9
