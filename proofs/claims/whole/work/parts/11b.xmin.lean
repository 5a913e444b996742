/-! the class: minutes looked for -/
theorem x_ch_loop {d : Nat} {p law : Int32} {h : MH} (m0 : Nat) : ∀ (n m : Nat), m + n = 720 → mjGo (d + 1) nyX11_cheapMinute 2 ([some (.int (nI m0)), some (.int p), some (.int law), some (.int (nI m))], [], h) (fun x => x = (.inl (some (.int (nI (xCh law p m)))), h)) := by
  intro n
  induction n with
  | zero =>
    intro m e
    have e : m = 720 := by omega
    subst e
    exact mjGo.ret 5 (fun _ => rfl) rfl
  | succ n ih =>
    intro m e
    have en : 720 - m = n + 1 := by omega
    refine mjGo.run 2 (pc' := 6) (F' := ([some (.int (nI m0)), some (.int p), some (.int law), some (.int (nI m))], [.int 719, .int (nI m)], h)) (fun _ => rfl) ?_
    refine mjGo.run 1 (pc' := (bif decide (719 < (nI m)) then 26 else 9)) (F' := ([some (.int (nI m0)), some (.int p), some (.int law), some (.int (nI m))], [], h)) (fun _ => rfl) ?_
    refine mjGo.br (fun q0 => ?_) (fun q0 => ?_)
    · rw [show (719 : Int32) = nI 719 from rfl, nI_ltI (by omega) (by omega)] at q0
      exact absurd q0 (by omega)
    · show mjGo _ _ 9 _ _
      refine mjGo.run 2 (pc' := 11) (F' := ([some (.int (nI m0)), some (.int p), some (.int law), some (.int (nI m))], [.int law, .int (nI m)], h)) (fun _ => rfl) ?_
      refine mjGo.call (n := 2) (j := 19) (nx := 14) (o := some (.int (xPrice (nI m) law))) (h' := h) (fun _ => rfl) (c_xPrice d _ _ _) ?_
      show mjGo _ _ 14 ([some (.int (nI m0)), some (.int p), some (.int law), some (.int (nI m))], [.int (xPrice (nI m) law)], h) _
      refine mjGo.run 2 (pc' := (bif decide (p < (xPrice (nI m) law)) then 20 else 18)) (F' := ([some (.int (nI m0)), some (.int p), some (.int law), some (.int (nI m))], [], h)) (fun _ => rfl) ?_
      refine mjGo.br (fun q1 => ?_) (fun q1 => ?_)
      · show mjGo _ _ 20 _ _
        refine mjGo.run 2 (pc' := 2) (F' := ([some (.int (nI m0)), some (.int p), some (.int law), some (.int ((nI m) + 1))], [], h)) (fun _ => rfl) ?_
        have k9 := ih (m + 1) (by omega)
        rw [← nI_1] at k9
        have e2 : xCh law p m = xCh law p (m + 1) := by rw [xCh, xCh, en, fst9, decide_eq_true q1, show 720 - (m + 1) = n by omega]; rfl
        rw [e2]
        exact k9
      · show mjGo _ _ 18 _ _
        refine mjGo.ret 2 (fun _ => rfl) ?_
        have e2 : xCh law p m = m := by rw [xCh, en, fst9, decide_eq_false q1]; rfl
        rw [e2]
theorem c_xCh (d : Nat) {m : Nat} {p law : Int32} {h : MH} (hm : m ≤ 720) : mjEv (d + 1) nyX11_cheapMinute [.int (nI m), .int p, .int law] h (.inl (some (.int (nI (xCh law p m))))) h := by
  refine mjEv.of ?_
  refine mjGo.run 2 (pc' := 2) (F' := ([some (.int (nI m)), some (.int p), some (.int law), some (.int (nI m))], [], h)) (fun _ => rfl) ?_
  exact x_ch_loop m (720 - m) m (by omega)
theorem x_np_loop {d np : Nat} {f : Int32} {I : Nat → Nat → Int32} {X : MX} (hnp : I 1 7 = nI np) (h8 : np ≤ 8) : ∀ (n j : Nat), j + n = np → mjGo d nyX10_nextPlanned 2 ([some (.ref 1), some (.int f), some (.int (nI j))], [], mjH I X) (fun x => x = (.inl (some (.int (xNp (I 6) f n j))), mjH I X)) := by
  intro n
  induction n with
  | zero =>
    intro j e
    have e : j = np := by omega
    subst e
    by_cases e8 : j = 8
    · subst e8
      exact mjGo.ret 5 (fun _ => rfl) rfl
    · skip
      refine mjGo.run 2 (pc' := 5) (F' := ([some (.ref 1), some (.int f), some (.int (nI j))], [.int 8, .int (nI j)], mjH I X)) (fun _ => rfl) ?_
      refine mjGo.run 1 (pc' := (bif decide (8 ≤ (nI j)) then 39 else 8)) (F' := ([some (.ref 1), some (.int f), some (.int (nI j))], [], mjH I X)) (fun _ => rfl) ?_
      refine mjGo.br (fun q0 => ?_) (fun q0 => ?_)
      · rw [show (8 : Int32) = nI 8 from rfl, nI_leI (by omega) (by omega)] at q0
        exact absurd q0 (by omega)
      · show mjGo _ _ 8 _ _
        refine mjGo.run 3 (pc' := 13) (F' := ([some (.ref 1), some (.int f), some (.int (nI j))], [.int (I 1 7), .int (nI j)], mjH I X)) (fun _ => rfl) ?_
        refine mjGo.run 1 (pc' := (bif decide ((I 1 7) ≤ (nI j)) then 39 else 16)) (F' := ([some (.ref 1), some (.int f), some (.int (nI j))], [], mjH I X)) (fun _ => rfl) ?_
        refine mjGo.br (fun w1 => ?_) (fun w1 => ?_)
        · exact mjGo.ret 2 (fun _ => rfl) rfl
        · rw [hnp] at w1
          exact absurd (Int32.le_refl _) w1
  | succ n ih =>
    intro j e
    refine mjGo.run 2 (pc' := 5) (F' := ([some (.ref 1), some (.int f), some (.int (nI j))], [.int 8, .int (nI j)], mjH I X)) (fun _ => rfl) ?_
    refine mjGo.run 1 (pc' := (bif decide (8 ≤ (nI j)) then 39 else 8)) (F' := ([some (.ref 1), some (.int f), some (.int (nI j))], [], mjH I X)) (fun _ => rfl) ?_
    refine mjGo.br (fun q0 => ?_) (fun q0 => ?_)
    · rw [show (8 : Int32) = nI 8 from rfl, nI_leI (by omega) (by omega)] at q0
      exact absurd q0 (by omega)
    · show mjGo _ _ 8 _ _
      refine mjGo.run 3 (pc' := 13) (F' := ([some (.ref 1), some (.int f), some (.int (nI j))], [.int (I 1 7), .int (nI j)], mjH I X)) (fun _ => rfl) ?_
      refine mjGo.run 1 (pc' := (bif decide ((I 1 7) ≤ (nI j)) then 39 else 16)) (F' := ([some (.ref 1), some (.int f), some (.int (nI j))], [], mjH I X)) (fun _ => rfl) ?_
      refine mjGo.br (fun w1 => ?_) (fun w1 => ?_)
      · rw [hnp, nI_leI (by omega) (by omega)] at w1
        exact absurd w1 (by omega)
      · show mjGo _ _ 16 _ _
        refine mjGo.run 3 (pc' := 21) (F' := ([some (.ref 1), some (.int f), some (.int (nI j))], [.int (nI j), .ref 6], mjH I X)) (fun _ => rfl) ?_
        refine mjGo.op (pc' := 22) (F' := ([some (.ref 1), some (.int f), some (.int (nI j))], [.int (I 6 j)], mjH I X)) (o := mjiald 22) rfl (fun _ => mjald_n (n := 8) (by omega) (by decide) (rfl) (rfl)) ?_
        refine mjGo.run 2 (pc' := (bif decide ((I 6 j) < f) then 33 else 26)) (F' := ([some (.ref 1), some (.int f), some (.int (nI j))], [], mjH I X)) (fun _ => rfl) ?_
        refine mjGo.br (fun q1 => ?_) (fun q1 => ?_)
        · show mjGo _ _ 33 _ _
          refine mjGo.run 2 (pc' := 2) (F' := ([some (.ref 1), some (.int f), some (.int ((nI j) + 1))], [], mjH I X)) (fun _ => rfl) ?_
          have k9 := ih (j + 1) (by omega)
          rw [← nI_1] at k9
          rw [xNp, if_pos q1]
          exact k9
        · show mjGo _ _ 26 _ _
          refine mjGo.run 3 (pc' := 31) (F' := ([some (.ref 1), some (.int f), some (.int (nI j))], [.int (nI j), .ref 6], mjH I X)) (fun _ => rfl) ?_
          refine mjGo.op (pc' := 32) (F' := ([some (.ref 1), some (.int f), some (.int (nI j))], [.int (I 6 j)], mjH I X)) (o := mjiald 32) rfl (fun _ => mjald_n (n := 8) (by omega) (by decide) (rfl) (rfl)) ?_
          refine mjGo.ret 1 (fun _ => rfl) ?_
          rw [xNp, if_neg q1]
theorem c_xNp (d : Nat) {np : Nat} {f : Int32} {I : Nat → Nat → Int32} {X : MX} (hnp : I 1 7 = nI np) (h8 : np ≤ 8) : mjEv d nyX10_nextPlanned [.ref 1, .int f] (mjH I X) (.inl (some (.int (xNp (I 6) f np 0)))) (mjH I X) := by
  refine mjEv.of ?_
  refine mjGo.run 2 (pc' := 2) (F' := ([some (.ref 1), some (.int f), some (.int (nI 0))], [], mjH I X)) (fun _ => rfl) ?_
  exact x_np_loop hnp h8 np 0 (by omega)
theorem nI_half {a b : Nat} (ha : a ≤ 720) (hb : b ≤ 720) : (nI a + nI b) / 2 = nI ((a + b) / 2) := by
  have key : ((List.range 1441).all fun m => decide (nI m / 2 = nI (m / 2))) = true := by decide +kernel
  rw [nI_add]
  exact of_decide_eq_true (List.all_eq_true.mp key _ (List.mem_range.mpr (by omega)))
theorem x_ft_loop {d p l : Nat} {T dr : Int32} {I : Nat → Nat → Int32} {X : MX} (hdr : I 19 4 = dr) (hd : -20 ≤ dr.toInt ∧ dr.toInt ≤ 20) (hl0 : I 19 6 = nI l) (hl : l ≤ 1000) : ∀ (k n lo hi : Nat) (o6 : Option Value), n + k = 10 → hi < lo + 2 ^ k → p ≤ lo → lo ≤ hi → hi ≤ 720 → (p < lo → mTho dr (nI l) (nI (lo - 1)) < T) → (hi < 720 → ¬ mTho dr (nI l) (nI hi) < T) →
    mjGo (d + 1) nyX3_firstThinking 10 ([some (.ref 19), some (.int (nI p)), some (.int T), some (.int (nI lo)), some (.int (nI hi)), some (.int (nI n)), o6], [], mjH I X) (fun x => x = (.inl (some (.int (nI (fT dr T l p)))), mjH I X)) := by
  intro k
  induction k with
  | zero =>
    intro n lo hi o6 e h1 h2 h3 h4 h5 h6
    have e : n = 10 := by omega
    subst e
    have e : lo = hi := by omega
    subst e
    rw [fT_at hd hl h2 h4 h5 h6]
    exact mjGo.ret 5 (fun _ => rfl) rfl
  | succ k ih =>
    intro n lo hi o6 e h1 h2 h3 h4 h5 h6
    refine mjGo.run 2 (pc' := 14) (F' := ([some (.ref 19), some (.int (nI p)), some (.int T), some (.int (nI lo)), some (.int (nI hi)), some (.int (nI n)), o6], [.int 10, .int (nI n)], mjH I X)) (fun _ => rfl) ?_
    refine mjGo.run 1 (pc' := (bif decide (10 ≤ (nI n)) then 66 else 17)) (F' := ([some (.ref 19), some (.int (nI p)), some (.int T), some (.int (nI lo)), some (.int (nI hi)), some (.int (nI n)), o6], [], mjH I X)) (fun _ => rfl) ?_
    refine mjGo.br (fun q0 => ?_) (fun q0 => ?_)
    · rw [show (10 : Int32) = nI 10 from rfl, nI_leI (by omega) (by omega)] at q0
      exact absurd q0 (by omega)
    · show mjGo _ _ 17 _ _
      refine mjGo.run 2 (pc' := 20) (F' := ([some (.ref 19), some (.int (nI p)), some (.int T), some (.int (nI lo)), some (.int (nI hi)), some (.int (nI n)), o6], [.int (nI hi), .int (nI lo)], mjH I X)) (fun _ => rfl) ?_
      refine mjGo.run 1 (pc' := (bif decide ((nI hi) ≤ (nI lo)) then 66 else 23)) (F' := ([some (.ref 19), some (.int (nI p)), some (.int T), some (.int (nI lo)), some (.int (nI hi)), some (.int (nI n)), o6], [], mjH I X)) (fun _ => rfl) ?_
      refine mjGo.br (fun w1 => ?_) (fun w1 => ?_)
      · rw [nI_leI (by omega) (by omega)] at w1
        have e : lo = hi := by omega
        subst e
        rw [fT_at hd hl h2 h4 h5 h6]
        exact mjGo.ret 2 (fun _ => rfl) rfl
      · rw [nI_leI (by omega) (by omega)] at w1
        show mjGo _ _ 23 _ _
        refine mjGo.run 5 (pc' := 29) (F' := ([some (.ref 19), some (.int (nI p)), some (.int T), some (.int (nI lo)), some (.int (nI hi)), some (.int (nI n)), o6], [.int (((nI lo) + (nI hi)) / 2)], mjH I X)) (fun _ => rfl) ?_
        refine mjGo.run 0 (pc' := 29) (F' := ([some (.ref 19), some (.int (nI p)), some (.int T), some (.int (nI lo)), some (.int (nI hi)), some (.int (nI n)), o6], [.int (((nI lo) + (nI hi)) / 2)], mjH I X)) (fun _ => rfl) ?_
        rw [show (((nI lo) + (nI hi)) / 2) = nI ((lo + hi) / 2) from nI_half (by omega) (by omega)]
        refine mjGo.run 6 (pc' := 41) (F' := ([some (.ref 19), some (.int (nI p)), some (.int T), some (.int (nI lo)), some (.int (nI hi)), some (.int (nI n)), some (.int (nI ((lo + hi) / 2)))], [.int (nI ((lo + hi) / 2)), .int (I 19 6), .int (I 19 4)], mjH I X)) (fun _ => rfl) ?_
        refine mjGo.call (n := 3) (j := 30) (nx := 44) (o := some (.int (xTho (I 19 4) (I 19 6) (nI ((lo + hi) / 2))))) (h' := mjH I X) (fun _ => rfl) (c_xTho d _ _ _ _) ?_
        show mjGo _ _ 44 ([some (.ref 19), some (.int (nI p)), some (.int T), some (.int (nI lo)), some (.int (nI hi)), some (.int (nI n)), some (.int (nI ((lo + hi) / 2)))], [.int (xTho (I 19 4) (I 19 6) (nI ((lo + hi) / 2)))], mjH I X) _
        refine mjGo.run 2 (pc' := (bif decide ((xTho (I 19 4) (I 19 6) (nI ((lo + hi) / 2))) < T) then 55 else 48)) (F' := ([some (.ref 19), some (.int (nI p)), some (.int T), some (.int (nI lo)), some (.int (nI hi)), some (.int (nI n)), some (.int (nI ((lo + hi) / 2)))], [], mjH I X)) (fun _ => rfl) ?_
        refine mjGo.br (fun q1 => ?_) (fun q1 => ?_)
        · show mjGo _ _ 55 _ _
          refine mjGo.run 6 (pc' := 10) (F' := ([some (.ref 19), some (.int (nI p)), some (.int T), some (.int ((nI ((lo + hi) / 2)) + 1)), some (.int (nI hi)), some (.int ((nI n) + 1)), some (.int (nI ((lo + hi) / 2)))], [], mjH I X)) (fun _ => rfl) ?_
          rw [hdr, hl0] at q1
          change mTho dr (nI l) (nI ((lo + hi) / 2)) < T at q1
          have k9 := ih (n + 1) (((lo + hi) / 2) + 1) hi (some (.int (nI ((lo + hi) / 2)))) (by omega) (by rw [Nat.pow_succ] at h1; omega) (by omega) (by omega) h4 (fun _ => by rw [show ((lo + hi) / 2) + 1 - 1 = ((lo + hi) / 2) by omega]; exact q1) h6
          rw [← nI_1, ← nI_1] at k9
          exact k9
        · show mjGo _ _ 48 _ _
          refine mjGo.run 5 (pc' := 10) (F' := ([some (.ref 19), some (.int (nI p)), some (.int T), some (.int (nI lo)), some (.int (nI ((lo + hi) / 2))), some (.int ((nI n) + 1)), some (.int (nI ((lo + hi) / 2)))], [], mjH I X)) (fun _ => rfl) ?_
          rw [hdr, hl0] at q1
          change ¬ mTho dr (nI l) (nI ((lo + hi) / 2)) < T at q1
          have k9 := ih (n + 1) lo ((lo + hi) / 2) (some (.int (nI ((lo + hi) / 2)))) (by omega) (by rw [Nat.pow_succ] at h1; omega) h2 (by omega) (by omega) h5 (fun _ => q1)
          rw [← nI_1] at k9
          exact k9
theorem c_xFt (d : Nat) {p l : Nat} {T dr : Int32} {I : Nat → Nat → Int32} {X : MX} (hdr : I 19 4 = dr) (hd : -20 ≤ dr.toInt ∧ dr.toInt ≤ 20) (hl0 : I 19 6 = nI l) (hl : l ≤ 1000) (hp : p ≤ 720) : mjEv (d + 1) nyX3_firstThinking [.ref 19, .int (nI p), .int T] (mjH I X) (.inl (some (.int (nI (fT dr T l p))))) (mjH I X) := by
  refine mjEv.of ?_
  refine mjGo.run 6 (pc' := 10) (F' := ([some (.ref 19), some (.int (nI p)), some (.int T), some (.int (nI p)), some (.int (nI 720)), some (.int (nI 0)), none], [], mjH I X)) (fun _ => rfl) ?_
  exact x_ft_loop hdr hd hl0 hl 10 0 p 720 none (by omega) (by omega) (Nat.le_refl _) hp (Nat.le_refl _) (fun h => absurd h (Nat.lt_irrefl _)) (fun h => absurd h (Nat.lt_irrefl _))
