/-! the class: when one goes -/
def xSc (I : Nat → Nat → Int32) (c0 : Int32) (l : Nat) (a : wkA) : Prop := I 19 6 = nI l ∧ I 19 12 = a.1 ∧ I 19 9 = c0 + a.1 ∧ I 19 8 = nI a.2.length ∧ ∀ i, i < a.2.length → I 20 i = nI (a.2.getD i 0)
def sck (k j : Nat) : Bool := (k == 19 && ((j == 6 || j == 8) || (j == 9 || j == 12))) || k == 20
def xEn (I : Nat → Nat → Int32) (X : MX) (a kd np : Nat) (fg dr : Int32) (lw : Nat) : Prop := (75 ≤ a ∧ a < X.2.2.2.1 + 75 ∧ X.2.2.1 a = (lkc kd, 0) ∧ kd < 8) ∧ X.1 19 2 = some 1 ∧ I 1 7 = nI np ∧ okP (I 6) np ∧ I 19 3 = fg ∧ I 19 4 = dr ∧ (-20 ≤ dr.toInt ∧ dr.toInt ≤ 20) ∧ I 19 5 = nI lw ∧ lw < 3
theorem xEn.eq {I J : Nat → Nat → Int32} {X : MX} {a kd np : Nat} {fg dr : Int32} {lw : Nat} (h : xEn I X a kd np fg dr lw) (e : eqO sck I J) : xEn J X a kd np fg dr lw := by
  obtain ⟨h1, h2, h3, h4, h5, h6, h7, h8, h9⟩ := h
  exact ⟨h1, h2, (e 1 7 rfl).trans h3, by rw [e.row (k := 6) (fun j => rfl)]; exact h4, (e 19 3 rfl).trans h5, (e 19 4 rfl).trans h6, h7, (e 19 5 rfl).trans h8, h9⟩
theorem xSc_lk {I : Nat → Nat → Int32} {c0 fee : Int32} {l m : Nat} {a : wkA} (h : xSc I c0 l a) : xSc (lkS I a.2.length fee m) c0 m (a.1 + fee, a.2 ++ [m]) := by
  obtain ⟨h1, h2, h3, h4, h5⟩ := h
  refine ⟨rfl, ?_, ?_, ?_, fun i hi => ?_⟩
  · show I 19 12 + fee = _
    rw [h2]
  · show I 19 9 + fee = _
    rw [h3, Int32.add_assoc]
  · show I 19 8 + 1 = _
    rw [h4, nI_1]
    simp
  · show (if i = a.2.length then nI m else I 20 i) = _
    by_cases e : i = a.2.length
    · rw [if_pos e, e]
      simp
    · have hi2 : i < a.2.length := by
        simp only [List.length_append, List.length_cons, List.length_nil] at hi
        omega
      rw [if_neg e, h5 i hi2]
      simp [List.getD, List.getElem?_append_left hi2]
theorem lkS_eq {I0 I : Nat → Nat → Int32} {c m : Nat} {fee : Int32} (h : eqO sck I0 I) : eqO sck I0 (lkS I c fee m) := by
  unfold lkS
  exact ((((h.put rfl).put rfl).put rfl).put rfl).put rfl
theorem x_go_loop {d a kd np lw : Nat} {I0 : Nat → Nat → Int32} {X : MX} {fg dr aim c0 : Int32} (he0 : xEn I0 X a kd np fg dr lw) {R : Nat × Nat × wkA} (hR13 : R.2.2.2.length ≤ 13) : ∀ (k dn p q l : Nat) (once : Int32) (A : wkA) (I : Nat → Nat → Int32) (o6 o7 o8 : Option Value), dn + k = 9 → p ≤ 719 → q ≤ 720 → l ≤ 719 → eqO sck I0 I → xSc I c0 l A → (once = 0 → q = p) → (nI dn ≤ 0 ↔ once = 0) →
    (kd ≠ 6 → dn ≤ 1) → (kd = 6 → dn + cnt (I0 6) q np ≤ 8) → (∀ g w, p ≤ g → g ≤ 719 → wSp (asOf kd) fg dr (nI lw) aim (I0 6) np l q once w → (∀ j, p ≤ j → j < g → wkG (asOf kd) fg dr aim j l = false) → wkG (asOf kd) fg dr aim g l = true → R = if g < w then (g, l, A) else aft (asOf kd) fg dr (nI lw) aim (I0 6) np w A) →
    mjGo (d + 3) nyX3_goingMinute 14 ([some (.ref 19), some (.ref a), some (.int aim), some (.int (nI p)), some (.int (nI q)), some (.int (nI dn)), o6, o7, o8], [], mjH I X) (fun x => ∃ J, x = (.inl (some (.int (nI R.1))), mjH J X) ∧ eqO sck I0 J ∧ xSc J c0 R.2.1 R.2.2) := by
  intro k
  induction k with
  | zero =>
    intro dn p q l once A I o6 o7 o8 h1 h2 h3 h4 heq hS hon hz hk1 hk6
    by_cases e : kd = 6
    · have := hk6 e
      omega
    · have := hk1 e
      omega
  | succ k ih =>
    intro dn p q l once A I o6 o7 o8 h1 h2 h3 h4 heq hS hon hz hk1 hk6 hR
    have he := he0.eq heq
    obtain ⟨⟨ha75, haN, haT, hk⟩, hP, hnp, hop, hfg, hdr, hd, hlw, hl3⟩ := he
    have hrow : I 6 = I0 6 := heq.row (k := 6) (fun j => rfl)
    obtain ⟨hS1, hS2, hS3, hS4, hS5⟩ := hS
    have hT : ∀ I : Nat → Nat → Int32, mjT (mjH I X) a = (lkc kd, 0) := fun I => (mjH_T ha75).trans haT
    have hN : ∀ I : Nat → Nat → Int32, a < mjN (mjH I X) := fun I => haN
    obtain ⟨g1, g2, g3, g4⟩ := g_spec (as := asOf kd) (f := fg) (dr := dr) (aim := aim) (l := l) h2
    obtain ⟨w, hw, hws, hw6⟩ := w_spec (f := fg) (aim := aim) (once := once) (z := nI dn) hk hd (show l ≤ 1000 by omega) hl3 hop (show p ≤ 720 by omega) h3 hon hz
    have hRR := hR _ w g1 g2 (by rw [← hrow]; exact hws) g3 g4
    have hfT : ∀ T, p ≤ 720 ∧ fT dr T l p ≤ 720 := fun T => by
      have := (fst9_spec (fun j => !(decide (mTho dr (nI l) (nI j) < T))) (720 - p) p).2.1
      have e : fT dr T l p = fst9 (fun j => !(decide (mTho dr (nI l) (nI j) < T))) (720 - p) p := rfl
      omega
    refine mjGo.run 2 (pc' := 18) (F' := ([some (.ref 19), some (.ref a), some (.int aim), some (.int (nI p)), some (.int (nI q)), some (.int (nI dn)), o6, o7, o8], [.int 8, .int (nI dn)], mjH I X)) (fun _ => rfl) ?_
    have hdn : dn ≤ 8 := by omega
    refine mjGo.run 1 (pc' := (bif decide (8 < (nI dn)) then 104 else 21)) (F' := ([some (.ref 19), some (.ref a), some (.int aim), some (.int (nI p)), some (.int (nI q)), some (.int (nI dn)), o6, o7, o8], [], mjH I X)) (fun _ => rfl) ?_
    refine mjGo.br (fun w0 => ?_) (fun w0 => ?_)
    · rw [show (8 : Int32) = nI 8 from rfl, nI_ltI (by omega) (by omega)] at w0
      exact absurd w0 (by omega)
    · show mjGo _ _ 21 _ _
      refine mjGo.run 7 (pc' := 32) (F' := ([some (.ref 19), some (.ref a), some (.int aim), some (.int (nI p)), some (.int (nI q)), some (.int (nI dn)), o6, o7, o8], [.int (I 19 3), .ref a, .int aim, .int (nI p), .ref 19, .int 719], mjH I X)) (fun _ => rfl) ?_
      refine mjGo.callL (o := some (.int (mEarly (asOf kd) (I 19 3)))) (h' := mjH I X) (nx := 35) rfl rfl rfl (hN I) (v_early (hT I) hk) ?_
      show mjGo _ _ 35 ([some (.ref 19), some (.ref a), some (.int aim), some (.int (nI p)), some (.int (nI q)), some (.int (nI dn)), o6, o7, o8], [.int (mEarly (asOf kd) (I 19 3)), .int aim, .int (nI p), .ref 19, .int 719], mjH I X) _
      refine mjGo.run 1 (pc' := 36) (F' := ([some (.ref 19), some (.ref a), some (.int aim), some (.int (nI p)), some (.int (nI q)), some (.int (nI dn)), o6, o7, o8], [.int (aim - (mEarly (asOf kd) (I 19 3))), .int (nI p), .ref 19, .int 719], mjH I X)) (fun _ => rfl) ?_
      refine mjGo.call (n := 3) (j := 31) (nx := 39) (o := some (.int (nI (fT dr (aim - (mEarly (asOf kd) (I 19 3))) l p)))) (h' := mjH I X) (fun _ => rfl) (c_xFt _ hdr hd hS1 (by omega) (by omega)) ?_
      show mjGo _ _ 39 ([some (.ref 19), some (.ref a), some (.int aim), some (.int (nI p)), some (.int (nI q)), some (.int (nI dn)), o6, o7, o8], [.int (nI (fT dr (aim - (mEarly (asOf kd) (I 19 3))) l p)), .int 719], mjH I X) _
      refine mjGo.run 10 (pc' := 54) (F' := ([some (.ref 19), some (.ref a), some (.int aim), some (.int (nI p)), some (.int (nI q)), some (.int (nI dn)), some (.int (mjmin 719 (nI (fT dr (aim - (mEarly (asOf kd) (I 19 3))) l p)))), o7, o8], [.int (aim - (5 * (I 19 3))), .int (nI p), .ref 19], mjH I X)) (fun _ => rfl) ?_
      refine mjGo.call (n := 3) (j := 31) (nx := 57) (o := some (.int (nI (fT dr (aim - (5 * (I 19 3))) l p)))) (h' := mjH I X) (fun _ => rfl) (c_xFt _ hdr hd hS1 (by omega) (by omega)) ?_
      show mjGo _ _ 57 ([some (.ref 19), some (.ref a), some (.int aim), some (.int (nI p)), some (.int (nI q)), some (.int (nI dn)), some (.int (mjmin 719 (nI (fT dr (aim - (mEarly (asOf kd) (I 19 3))) l p)))), o7, o8], [.int (nI (fT dr (aim - (5 * (I 19 3))) l p))], mjH I X) _
      refine mjGo.run 6 (pc' := 67) (F' := ([some (.ref 19), some (.ref a), some (.int aim), some (.int (nI p)), some (.int (nI q)), some (.int (nI dn)), some (.int (mjmin 719 (nI (fT dr (aim - (mEarly (asOf kd) (I 19 3))) l p)))), some (.int (nI (fT dr (aim - (5 * (I 19 3))) l p))), o8], [.int (nI dn), .int (nI q), .int (nI (fT dr (aim - (5 * (I 19 3))) l p)), .ref 19, .ref a], mjH I X)) (fun _ => rfl) ?_
      refine mjGo.callL (o := some (.int (nlZ kd (I 6) np (I 19 3) (I 19 5) (fT dr (aim - (5 * (I 19 3))) l p) (nI q) (nI dn)))) (h' := mjH I X) (nx := 70) rfl rfl rfl (hN I) (v_next (rd := (fT dr (aim - (5 * (I 19 3))) l p)) (hT I) hk hP hnp hop.1 (hfT _).2) ?_
      show mjGo _ _ 70 ([some (.ref 19), some (.ref a), some (.int aim), some (.int (nI p)), some (.int (nI q)), some (.int (nI dn)), some (.int (mjmin 719 (nI (fT dr (aim - (mEarly (asOf kd) (I 19 3))) l p)))), some (.int (nI (fT dr (aim - (5 * (I 19 3))) l p))), o8], [.int (nlZ kd (I 6) np (I 19 3) (I 19 5) (fT dr (aim - (5 * (I 19 3))) l p) (nI q) (nI dn))], mjH I X) _
      refine mjGo.run 1 (pc' := 72) (F' := ([some (.ref 19), some (.ref a), some (.int aim), some (.int (nI p)), some (.int (nI q)), some (.int (nI dn)), some (.int (mjmin 719 (nI (fT dr (aim - (mEarly (asOf kd) (I 19 3))) l p)))), some (.int (nI (fT dr (aim - (5 * (I 19 3))) l p))), some (.int (nlZ kd (I 6) np (I 19 3) (I 19 5) (fT dr (aim - (5 * (I 19 3))) l p) (nI q) (nI dn)))], [], mjH I X)) (fun _ => rfl) ?_
      show mjGo _ _ 72 ([some (.ref 19), some (.ref a), some (.int aim), some (.int (nI p)), some (.int (nI q)), some (.int (nI dn)), some (.int (mjmin 719 (nI (fT dr (aim - (mEarly (asOf kd) (I 19 3))) l p)))), some (.int (nI (fT dr (aim - (5 * (I 19 3))) l p))), some (.int (nlZ kd (I 6) np (I 19 3) (I 19 5) (fT dr (aim - (5 * (I 19 3))) l p) (nI q) (nI dn)))], [], mjH I X) _
      rw [hfg, hlw, hw, show (719 : Int32) = nI 719 from rfl, mjmin_n (by omega) (by have := (hfT (aim - mEarly (asOf kd) fg)).2; omega)]
      refine mjGo.run 2 (pc' := 76) (F' := ([some (.ref 19), some (.ref a), some (.int aim), some (.int (nI p)), some (.int (nI q)), some (.int (nI dn)), some (.int (nI (min 719 (fT dr (aim - mEarly (asOf kd) fg) l p)))), some (.int (nI (fT dr (aim - 5 * fg) l p))), some (.int (nI w))], [.int (nI (min 719 (fT dr (aim - mEarly (asOf kd) fg) l p))), .int (nI w)], mjH I X)) (fun _ => rfl) ?_
      have hw720 : w ≤ 720 := hws.2.1
      refine mjGo.run 1 (pc' := (bif decide ((nI w) ≤ (nI (min 719 (fT dr (aim - mEarly (asOf kd) fg) l p)))) then 82 else 79)) (F' := ([some (.ref 19), some (.ref a), some (.int aim), some (.int (nI p)), some (.int (nI q)), some (.int (nI dn)), some (.int (nI (min 719 (fT dr (aim - mEarly (asOf kd) fg) l p)))), some (.int (nI (fT dr (aim - 5 * fg) l p))), some (.int (nI w))], [], mjH I X)) (fun _ => rfl) ?_
      refine mjGo.br (fun w1 => ?_) (fun w1 => ?_)
      · rw [nI_leI (by omega) (by omega)] at w1
        rw [if_neg (by omega)] at hRR
        have hal := aft_len (as := asOf kd) (f := fg) (dr := dr) (law := nI lw) (aim := aim) (row := I0 6) (np := np) (w := w) (a := A)
        rw [← hRR] at hal
        have hlen : A.2.length < 13 := by omega
        show mjGo _ _ 82 _ _
        refine mjGo.run 3 (pc' := 86) (F' := ([some (.ref 19), some (.ref a), some (.int aim), some (.int (nI p)), some (.int (nI q)), some (.int (nI dn)), some (.int (nI (min 719 (fT dr (aim - mEarly (asOf kd) fg) l p)))), some (.int (nI (fT dr (aim - 5 * fg) l p))), some (.int (nI w))], [.int (nI w), .ref a, .ref 19], mjH I X)) (fun _ => rfl) ?_
        refine mjGo.call (n := 3) (j := 39) (nx := 89) (o := none) (h' := mjH (lkS I A.2.length (mPays (asOf kd) (mPrice (nI lw) (nI w))) w) X) (fun _ => rfl) (c_xLk d (hT I) (hN I) hk hS4 hlen hlw hl3 (by omega)) ?_
        show mjGo _ _ 89 ([some (.ref 19), some (.ref a), some (.int aim), some (.int (nI p)), some (.int (nI q)), some (.int (nI dn)), some (.int (nI (min 719 (fT dr (aim - mEarly (asOf kd) fg) l p)))), some (.int (nI (fT dr (aim - 5 * fg) l p))), some (.int (nI w))], [], mjH (lkS I A.2.length (mPays (asOf kd) (mPrice (nI lw) (nI w))) w) X) _
        refine mjGo.run 8 (pc' := 14) (F' := ([some (.ref 19), some (.ref a), some (.int aim), some (.int (nI w)), some (.int ((nI w) + 1)), some (.int ((nI dn) + 1)), some (.int (nI (min 719 (fT dr (aim - mEarly (asOf kd) fg) l p)))), some (.int (nI (fT dr (aim - 5 * fg) l p))), some (.int (nI w))], [], mjH (lkS I A.2.length (mPays (asOf kd) (mPrice (nI lw) (nI w))) w) X)) (fun _ => rfl) ?_
        have hcnt : kd = 6 → dn + 1 + cnt (I0 6) (w + 1) np ≤ 8 := fun e => by
          have q1 := hk6 e
          have q2 := hws.2.2.2 (by omega)
          subst e
          rw [show asOf 6 = 6 from rfl, wkW_C, hrow] at q2
          have q3 := cnt_hit (I0 6) (m := w) (by omega) np (of_decide_eq_true q2)
          have q4 := cnt_mono (I0 6) hws.1 np
          omega
        have hnk : kd ≠ 6 → dn + 1 ≤ 1 := fun e => by
          have q1 := hk1 e
          have q2 : once = 0 := Decidable.not_not.mp fun q => by
            have := hw6 e q
            omega
          have q3 := hz.mpr q2
          rw [show (0 : Int32) = nI 0 from rfl, nI_leI (by omega) (by omega)] at q3
          omega
        have k9 := ih (dn + 1) w (w + 1) w 1 _ _ (some (.int (nI (min 719 (fT dr (aim - mEarly (asOf kd) fg) l p))))) (some (.int (nI (fT dr (aim - 5 * fg) l p)))) (some (.int (nI w))) (by omega) (by omega) (by omega) (by omega) (lkS_eq heq) (xSc_lk (fee := mPays (asOf kd) (mPrice (nI lw) (nI w))) (m := w) ⟨hS1, hS2, hS3, hS4, hS5⟩) (fun h => absurd h (by decide)) ⟨fun h => absurd h (by rw [show (0 : Int32) = nI 0 from rfl, nI_leI (by omega) (by omega)]; omega), fun h => absurd h (by decide)⟩ hnk hcnt (fun g9 w9 r1 r2 r3 r4 r5 => by rw [hRR]; exact aft_step (by omega) r1 r2 r3.1 r4 r5 r3.2.2.1 r3.2.2.2)
        rw [← nI_1, ← nI_1] at k9
        exact k9
      · rw [nI_leI (by omega) (by omega)] at w1
        rw [if_pos (by omega)] at hRR
        subst hRR
        exact mjGo.ret 2 (fun _ => rfl) ⟨I, rfl, heq, hS1, hS2, hS3, hS4, hS5⟩
theorem c_xGo (d : Nat) {a kd np lw m l : Nat} {I : Nat → Nat → Int32} {X : MX} {fg dr aim c0 : Int32} {A : wkA} (he : xEn I X a kd np fg dr lw) (hfr : I 19 7 = nI m) (hm : m ≤ 719) (hl : l ≤ 719) (hS : xSc I c0 l A) (h13 : (wk (asOf kd) fg dr (nI lw) aim (I 6) np (720 - m) m l 0 A).2.2.2.length ≤ 13) :
    mjEvP (d + 3) nyX3_goingMinute [.ref 19, .ref a, .int aim] (mjH I X) (fun o h2 => ∃ J, h2 = mjH J X ∧ eqO sck I J ∧ xSc J c0 (wk (asOf kd) fg dr (nI lw) aim (I 6) np (720 - m) m l 0 A).2.1 (wk (asOf kd) fg dr (nI lw) aim (I 6) np (720 - m) m l 0 A).2.2 ∧ o = some (.int (nI (wk (asOf kd) fg dr (nI lw) aim (I 6) np (720 - m) m l 0 A).1))) := by
  refine mjEvP.of ?_
  refine mjGo.run 8 (pc' := 14) (F' := ([some (.ref 19), some (.ref a), some (.int aim), some (.int (I 19 7)), some (.int (I 19 7)), some (.int 0), none, none, none], [], mjH I X)) (fun _ => rfl) ?_
  rw [hfr]
  obtain ⟨n, x, hn, J, rfl, h1, h2⟩ := x_go_loop (d := d) (c0 := c0) (aim := aim) (R := wk (asOf kd) fg dr (nI lw) aim (I 6) np (720 - m) m l 0 A) he h13 9 0 m m l 0 A I none none none (by omega) hm (by omega) hl eqO.rf hS (fun _ => rfl) ⟨fun _ => rfl, fun _ => by decide⟩ (fun _ => by omega) (fun _ => by have := cnt_le (I 6) m np; have := he.2.2.2.1.1; omega)
    (fun g w r1 r2 r3 r4 r5 => wk_step (by omega) r1 r2 r3.1 r4 r5 r3.2.2.1 r3.2.2.2)
  exact ⟨n, _, hn, _, rfl, J, rfl, h1, h2, rfl⟩
