/-! town: the draft -/
def dLk (s : TS) (J : Nat → Nat → Int32) (Y : MX) (i : Nat) : Prop := ∃ a kd wn, Y.1 11 i = some a ∧ lkK Y a kd ∧ J a 0 = nI i ∧ J a 1 = s.1 49 i ∧ J a 2 = s.1 50 i ∧ J a 3 = nI wn ∧ s.1 51 i = nI wn ∧ wn ≤ 719 ∧ s.1 48 i = nI kd ∧ (-20 ≤ (s.1 50 i).toInt ∧ (s.1 50 i).toInt ≤ 20)
def dN (Y : MX) (i : Nat) : Prop := Y.1 11 i = none ∨ ∃ a kd, Y.1 11 i = some a ∧ lkK Y a kd
def dR (I0 : Nat → Nat → Int32) (X0 : MX) (n0 : Nat) (s : TS) (J : Nat → Nat → Int32) (Y : MX) : Prop :=
  (J 7 5 = nI s.2.1 ∧ J 7 6 = nI s.2.2.1 ∧ J 7 7 = nI s.2.2.2 ∧ ∃ lw, lw < 3 ∧ J 7 8 = nI lw ∧ s.1 44 3 = nI lw) ∧
  (∀ j, j < 5 → J 8 j = s.1 45 j ∧ J 9 j = s.1 46 j ∧ J 10 j = s.1 47 j) ∧ (∀ j, j < 8 → J 12 j = s.1 52 j) ∧
  (okW (s.1 45) (s.1 46) s.2.1 ∧ okP (s.1 52) s.2.2.2) ∧ (∀ i, i < s.2.2.1 → dLk s J Y i) ∧ (∀ i, i < 6 → dN Y i) ∧
  (∀ k j, k < X0.2.2.2.1 + 75 → (k < 7 ∨ 12 < k) → k ≠ 22 → J k j = I0 k j) ∧ xle X0 Y ∧
  (n0 ≤ s.2.2.1 ∧ Y.2.2.2.1 + n0 = X0.2.2.2.1 + s.2.2.1 ∧ Y.2.2.2.2.1 + n0 = X0.2.2.2.2.1 + s.2.2.1 ∧ Y.2.2.2.2.2 + 4 * n0 = X0.2.2.2.2.2 + 4 * s.2.2.1) ∧
  (∀ j, 5 ≤ j → s.1 45 j = I0 45 j ∧ s.1 46 j = I0 46 j ∧ s.1 47 j = I0 47 j) ∧ (∀ j, 8 ≤ j → s.1 52 j = I0 52 j)
theorem dR.told {I0 : Nat → Nat → Int32} {X0 : MX} {n0 : Nat} {s : TS} {J J2 : Nat → Nat → Int32} {Y : MX} (h : dR I0 X0 n0 s J Y) (e : ∀ k, k ≠ 22 → J2 k = J k) : dR I0 X0 n0 s J2 Y := by
  obtain ⟨h1, h2, h3, h4, h5, h6, h7, h8, h9, h10, h11⟩ := h
  unfold dR
  rw [e 7 (by omega), e 8 (by omega), e 9 (by omega), e 10 (by omega), e 12 (by omega)]
  refine ⟨h1, h2, h3, h4, fun i hi => ?_, h6, fun k j hk hk2 hk3 => by rw [e k hk3]; exact h7 k j hk hk2 hk3, h8, h9, h10, h11⟩
  obtain ⟨a, kd, wn, g1, g2, g3⟩ := h5 i hi
  have ha := e a (by have := g2.1; omega)
  unfold dLk
  refine ⟨a, kd, wn, g1, g2, ?_⟩
  rw [ha]
  exact g3
/-- changes of the draft's own rows alone -/
theorem dLk.row {s s2 : TS} {J J2 : Nat → Nat → Int32} {Y : MX} {i : Nat} (h : dLk s J Y i) (e : ∀ a, 75 ≤ a → J2 a = J a) (e8 : s2.1 48 = s.1 48) (e9 : s2.1 49 = s.1 49) (e0 : s2.1 50 = s.1 50) (e1 : s2.1 51 = s.1 51) : dLk s2 J2 Y i := by
  obtain ⟨a, kd, wn, g1, g2, g3⟩ := h
  refine ⟨a, kd, wn, g1, g2, ?_⟩
  rw [e a g2.1, e8, e9, e0, e1]
  exact g3
theorem dR_119 {I0 : Nat → Nat → Int32} {X0 : MX} {n0 : Nat} {s : TS} {J : Nat → Nat → Int32} {Y : MX} {a b : Nat} {F : Nat → Int32} (h : dR I0 X0 n0 s J Y) (ha : a < 1000) (hb : b < 1000) (f0 : F 0 = nI a) (f1 : F 1 = nI b) (ho : s.2.1 < 5 ∧ F 0 ≤ 719 ∧ laT s < F 0 ∧ F 1 ≤ 59) : dR I0 X0 n0 (stp s 119 F) (mjU (mjU (mjU (mjU J 8 s.2.1 (nI a)) 9 s.2.1 (nI b)) 10 s.2.1 (F 2)) 7 5 (nI (s.2.1 + 1))) Y := by
  obtain ⟨⟨c1, c2, c3, lw, c4, c5, c6⟩, h2, h3, ⟨h4, h4p⟩, h5, h6, h7, h8, h9, h10, h11⟩ := h
  obtain ⟨o1, o2, o3, o4⟩ := ho
  rw [f0, show (719 : Int32) = nI 719 from rfl, nI_leI (by omega) (by omega)] at o2
  rw [f1, show (59 : Int32) = nI 59 from rfl, nI_leI (by omega) (by omega)] at o4
  rw [stp_119, f0, f1]
  have v45 : ∀ j, (mjU (mjU (mjU (mjU s.1 45 s.2.1 (nI a)) 46 s.2.1 (nI b)) 47 s.2.1 (F 2)) 44 0 (nI (s.2.1 + 1))) 45 j = if j = s.2.1 then nI a else s.1 45 j := fun j => by rw [mjU_r (by omega), mjU_r (by omega), mjU_r (by omega), mjU_k]
  have v46 : ∀ j, (mjU (mjU (mjU (mjU s.1 45 s.2.1 (nI a)) 46 s.2.1 (nI b)) 47 s.2.1 (F 2)) 44 0 (nI (s.2.1 + 1))) 46 j = if j = s.2.1 then nI b else s.1 46 j := fun j => by rw [mjU_r (by omega), mjU_r (by omega), mjU_k, mjU_r (by omega)]
  have v47 : ∀ j, (mjU (mjU (mjU (mjU s.1 45 s.2.1 (nI a)) 46 s.2.1 (nI b)) 47 s.2.1 (F 2)) 44 0 (nI (s.2.1 + 1))) 47 j = if j = s.2.1 then F 2 else s.1 47 j := fun j => by rw [mjU_r (by omega), mjU_k, mjU_r (by omega), mjU_r (by omega)]
  refine ⟨⟨rfl, c2, c3, lw, c4, c5, c6⟩, fun j hj => ?_, h3, ⟨⟨?_, fun k hk => ?_⟩, h4p⟩, fun i hi => ?_, h6, fun k j hk hk2 hk3 => ?_, h8, h9, fun j hj => ?_, h11⟩
  · show _ = (mjU (mjU (mjU (mjU s.1 45 s.2.1 (nI a)) 46 s.2.1 (nI b)) 47 s.2.1 (F 2)) 44 0 (nI (s.2.1 + 1))) 45 j ∧ _ = (mjU (mjU (mjU (mjU s.1 45 s.2.1 (nI a)) 46 s.2.1 (nI b)) 47 s.2.1 (F 2)) 44 0 (nI (s.2.1 + 1))) 46 j ∧ _ = (mjU (mjU (mjU (mjU s.1 45 s.2.1 (nI a)) 46 s.2.1 (nI b)) 47 s.2.1 (F 2)) 44 0 (nI (s.2.1 + 1))) 47 j
    rw [v45, v46, v47, ← (h2 j hj).1, ← (h2 j hj).2.1, ← (h2 j hj).2.2]
    refine ⟨?_, ?_, ?_⟩
    · rw [mjU_r (by omega), mjU_r (by omega), mjU_r (by omega), mjU_k]
    · rw [mjU_r (by omega), mjU_r (by omega), mjU_k, mjU_r (by omega)]
    · rw [mjU_r (by omega), mjU_k, mjU_r (by omega), mjU_r (by omega)]
  · show s.2.1 + 1 ≤ 5
    omega
  · show (0 ≤ ((mjU (mjU (mjU (mjU s.1 45 s.2.1 (nI a)) 46 s.2.1 (nI b)) 47 s.2.1 (F 2)) 44 0 (nI (s.2.1 + 1))) 45 k).toInt ∧ ((mjU (mjU (mjU (mjU s.1 45 s.2.1 (nI a)) 46 s.2.1 (nI b)) 47 s.2.1 (F 2)) 44 0 (nI (s.2.1 + 1))) 45 k).toInt ≤ 719) ∧ (0 ≤ ((mjU (mjU (mjU (mjU s.1 45 s.2.1 (nI a)) 46 s.2.1 (nI b)) 47 s.2.1 (F 2)) 44 0 (nI (s.2.1 + 1))) 46 k).toInt ∧ ((mjU (mjU (mjU (mjU s.1 45 s.2.1 (nI a)) 46 s.2.1 (nI b)) 47 s.2.1 (F 2)) 44 0 (nI (s.2.1 + 1))) 46 k).toInt ≤ 59)
    rw [v45, v46]
    by_cases w : k = s.2.1
    · rw [if_pos w, if_pos w, nI_toInt (by omega), nI_toInt (by omega)]
      omega
    · have hk : k < s.2.1 + 1 := hk
      rw [if_neg w, if_neg w]
      exact h4.2 k (by omega)
  · exact (h5 i hi).row (fun a h => by rw [mjU_r (by omega), mjU_r (by omega), mjU_r (by omega), mjU_r (by omega)]) rfl rfl rfl rfl
  · rw [mjU_r (by omega), mjU_r (by omega), mjU_r (by omega), mjU_r (by omega)]
    exact h7 k j hk hk2 hk3
  · show (mjU (mjU (mjU (mjU s.1 45 s.2.1 (nI a)) 46 s.2.1 (nI b)) 47 s.2.1 (F 2)) 44 0 (nI (s.2.1 + 1))) 45 j = _ ∧ (mjU (mjU (mjU (mjU s.1 45 s.2.1 (nI a)) 46 s.2.1 (nI b)) 47 s.2.1 (F 2)) 44 0 (nI (s.2.1 + 1))) 46 j = _ ∧ (mjU (mjU (mjU (mjU s.1 45 s.2.1 (nI a)) 46 s.2.1 (nI b)) 47 s.2.1 (F 2)) 44 0 (nI (s.2.1 + 1))) 47 j = _
    rw [v45, v46, v47, if_neg (by omega), if_neg (by omega), if_neg (by omega)]
    exact h10 j hj
theorem dR_112 {I0 : Nat → Nat → Int32} {X0 : MX} {n0 : Nat} {s : TS} {J : Nat → Nat → Int32} {Y : MX} {a : Nat} {F : Nat → Int32} (h : dR I0 X0 n0 s J Y) (ha : a < 1000) (f0 : F 0 = nI a) (ho : s.2.2.2 < 8 ∧ F 0 ≤ 719 ∧ plT s < F 0) : dR I0 X0 n0 (stp s 112 F) (mjU (mjU J 12 s.2.2.2 (nI a)) 7 7 (nI (s.2.2.2 + 1))) Y := by
  obtain ⟨⟨c1, c2, c3, lw, c4, c5, c6⟩, h2, h3, ⟨h4, h4p⟩, h5, h6, h7, h8, h9, h10, h11⟩ := h
  obtain ⟨o1, o2, o3⟩ := ho
  rw [f0, show (719 : Int32) = nI 719 from rfl, nI_leI (by omega) (by omega)] at o2
  rw [f0, i32_lt, nI_toInt (by omega)] at o3
  rw [stp_112, f0]
  have v52 : ∀ j, (mjU (mjU s.1 52 s.2.2.2 (nI a)) 44 2 (nI (s.2.2.2 + 1))) 52 j = if j = s.2.2.2 then nI a else s.1 52 j := fun j => by rw [mjU_r (by omega), mjU_k]
  obtain ⟨p1, p2, p3⟩ := h4p
  refine ⟨⟨c1, c2, rfl, lw, c4, c5, c6⟩, h2, fun j hj => ?_, ⟨h4, ?_, fun k hk => ?_, fun p q hp hq => ?_⟩, fun i hi => ?_, h6, fun k j hk hk2 hk3 => ?_, h8, h9, h10, fun j hj => ?_⟩
  · show _ = (mjU (mjU s.1 52 s.2.2.2 (nI a)) 44 2 (nI (s.2.2.2 + 1))) 52 j
    rw [v52, ← h3 j hj, mjU_r (by omega), mjU_k]
  · show s.2.2.2 + 1 ≤ 8
    omega
  · show 0 ≤ ((mjU (mjU s.1 52 s.2.2.2 (nI a)) 44 2 (nI (s.2.2.2 + 1))) 52 k).toInt ∧ ((mjU (mjU s.1 52 s.2.2.2 (nI a)) 44 2 (nI (s.2.2.2 + 1))) 52 k).toInt ≤ 719
    rw [v52]
    have hk : k < s.2.2.2 + 1 := hk
    by_cases w : k = s.2.2.2
    · rw [if_pos w, nI_toInt (by omega)]
      omega
    · rw [if_neg w]
      exact p2 k (by omega)
  · show ((mjU (mjU s.1 52 s.2.2.2 (nI a)) 44 2 (nI (s.2.2.2 + 1))) 52 p).toInt < ((mjU (mjU s.1 52 s.2.2.2 (nI a)) 44 2 (nI (s.2.2.2 + 1))) 52 q).toInt
    rw [v52, v52]
    have hq : q < s.2.2.2 + 1 := hq
    rw [if_neg (show ¬ p = s.2.2.2 by omega)]
    by_cases w : q = s.2.2.2
    · rw [if_pos w, nI_toInt (by omega)]
      unfold plT at o3
      rw [if_neg (by omega)] at o3
      by_cases z : p = s.2.2.2 - 1
      · rw [z]
        exact o3
      · have := p3 p (s.2.2.2 - 1) (by omega) (by omega)
        omega
    · rw [if_neg w]
      exact p3 p q hp (by omega)
  · exact (h5 i hi).row (fun a h => by rw [mjU_r (by omega), mjU_r (by omega)]) rfl rfl rfl rfl
  · rw [mjU_r (by omega), mjU_r (by omega)]
    exact h7 k j hk hk2 hk3
  · show (mjU (mjU s.1 52 s.2.2.2 (nI a)) 44 2 (nI (s.2.2.2 + 1))) 52 j = _
    rw [v52, if_neg (by omega)]
    exact h11 j hj
theorem dR_108 {I0 : Nat → Nat → Int32} {X0 : MX} {n0 : Nat} {s : TS} {J : Nat → Nat → Int32} {Y : MX} {a : Nat} {F : Nat → Int32} (h : dR I0 X0 n0 s J Y) (ha : a < 1000) (f0 : F 0 = nI a) (ho : F 0 ≤ 2) : dR I0 X0 n0 (stp s 108 F) (mjU J 7 8 (nI a)) Y := by
  obtain ⟨⟨c1, c2, c3, lw, c4, c5, c6⟩, h2, h3, h4, h5, h6, h7, h8, h9, h10, h11⟩ := h
  rw [f0, show (2 : Int32) = nI 2 from rfl, nI_leI (by omega) (by omega)] at ho
  rw [stp_108, f0]
  refine ⟨⟨c1, c2, c3, a, by omega, rfl, rfl⟩, h2, h3, h4, fun i hi => ?_, h6, fun k j hk hk2 hk3 => ?_, h8, h9, h10, h11⟩
  · exact (h5 i hi).row (fun a h => by rw [mjU_r (by omega)]) rfl rfl rfl rfl
  · rw [mjU_r (by omega)]
    exact h7 k j hk hk2 hk3
theorem dR_107 {I0 : Nat → Nat → Int32} {X0 : MX} {n0 : Nat} {s : TS} {J : Nat → Nat → Int32} {Y : MX} {a b w9 : Nat} {F : Nat → Int32} (h : dR I0 X0 n0 s J Y) (ha : a < 1000) (hb : b < 1000) (hw : w9 < 1000) (f0 : F 0 = nI a) (f1 : F 1 = nI b) (f3 : F 3 = nI w9) (ho : s.2.2.1 < 6 ∧ F 0 ≤ 7 ∧ ¬ mIn (F 2) (-20) 20 = 0 ∧ F 3 ≤ 719) : dR I0 X0 n0 (stp s 107 F) (mjU (lkI (nwI J Y) (Y.2.2.2.1 + 75) (nI s.2.2.1) (nI b) (F 2) (nI w9)) 7 6 (nI (s.2.2.1 + 1))) (stP (nwX Y (lkc a)) 11 s.2.2.1 (Y.2.2.2.1 + 75)) := by
  obtain ⟨⟨c1, c2, c3, lw, c4, c5, c6⟩, h2, h3, h4, h5, h6, h7, h8, ⟨n1, n2, n3, n4⟩, h10, h11⟩ := h
  obtain ⟨o1, o2, o3, o4⟩ := ho
  rw [f0, show (7 : Int32) = nI 7 from rfl, nI_leI (by omega) (by omega)] at o2
  rw [f3, show (719 : Int32) = nI 719 from rfl, nI_leI (by omega) (by omega)] at o4
  rw [stp_107, f0, f1, f3]
  have lo : ∀ k, k ≠ Y.2.2.2.1 + 75 → k ≠ 7 → (mjU (lkI (nwI J Y) (Y.2.2.2.1 + 75) (nI s.2.2.1) (nI b) (F 2) (nI w9)) 7 6 (nI (s.2.2.1 + 1))) k = J k := fun k h1 h2 => by
    rw [mjU_r h2]
    unfold lkI nwI
    rw [mjU_r h1, mjU_r h1, mjU_r h1, mjU_r h1, mjR_ne h1]
  have l7 : ∀ j, j ≠ 6 → (mjU (lkI (nwI J Y) (Y.2.2.2.1 + 75) (nI s.2.2.1) (nI b) (F 2) (nI w9)) 7 6 (nI (s.2.2.1 + 1))) 7 j = J 7 j := fun j hj => by
    rw [mjU_ne2 hj]
    unfold lkI nwI
    rw [mjU_r (by omega), mjU_r (by omega), mjU_r (by omega), mjU_r (by omega), mjR_ne (by omega)]
  have lN : ∀ j, (mjU (lkI (nwI J Y) (Y.2.2.2.1 + 75) (nI s.2.2.1) (nI b) (F 2) (nI w9)) 7 6 (nI (s.2.2.1 + 1))) (Y.2.2.2.1 + 75) j = if j = 3 then nI w9 else if j = 2 then F 2 else if j = 1 then nI b else if j = 0 then nI s.2.2.1 else 0 := fun j => by
    rw [mjU_r (by omega)]
    unfold lkI nwI
    rw [mjU_k, mjU_k, mjU_k, mjU_k, mjR_eq]
  have xP : ∀ k j, k ≠ 11 → k < 75 → (stP (nwX Y (lkc a)) 11 s.2.2.1 (Y.2.2.2.1 + 75)).1 k j = Y.1 k j := fun k j h1 h2 => by
    show mjU (mjR Y.1 (Y.2.2.2.1 + 75) (fun _ => none)) 11 s.2.2.1 (some (Y.2.2.2.1 + 75)) k j = _
    rw [mjU_r h1, mjR_ne (by omega)]
  have xP11 : ∀ j, (stP (nwX Y (lkc a)) 11 s.2.2.1 (Y.2.2.2.1 + 75)).1 11 j = if j = s.2.2.1 then some (Y.2.2.2.1 + 75) else Y.1 11 j := fun j => by
    show mjU (mjR Y.1 (Y.2.2.2.1 + 75) (fun _ => none)) 11 s.2.2.1 (some (Y.2.2.2.1 + 75)) 11 j = _
    rw [mjU_k, mjR_ne (by omega)]
  have xK : ∀ a9 kd, lkK Y a9 kd → lkK (stP (nwX Y (lkc a)) 11 s.2.2.1 (Y.2.2.2.1 + 75)) a9 kd := fun a9 kd hk => hk.le (Y := nwX Y (lkc a)) nwX_le
  have xN : lkK (stP (nwX Y (lkc a)) 11 s.2.2.1 (Y.2.2.2.1 + 75)) (Y.2.2.2.1 + 75) a := nwX_K (X := Y) (show a < 8 by omega)
  have v48 : ∀ k j v (f : Nat → Nat → Int32), (mjU f k s.2.2.1 v) k j = if j = s.2.2.1 then v else f k j := fun k j v f => mjU_k
  obtain ⟨V, hV⟩ : ∃ V, V = (mjU (mjU (mjU (mjU (mjU s.1 48 s.2.2.1 (nI a)) 49 s.2.2.1 (nI b)) 50 s.2.2.1 (F 2)) 51 s.2.2.1 (nI w9)) 44 1 (nI (s.2.2.1 + 1))) := ⟨_, rfl⟩
  have w48 : ∀ j, V 48 j = if j = s.2.2.1 then nI a else s.1 48 j := fun j => by rw [hV, mjU_r (by omega), mjU_r (by omega), mjU_r (by omega), mjU_r (by omega), mjU_k]
  have w49 : ∀ j, V 49 j = if j = s.2.2.1 then nI b else s.1 49 j := fun j => by rw [hV, mjU_r (by omega), mjU_r (by omega), mjU_r (by omega), mjU_k, mjU_r (by omega)]
  have w50 : ∀ j, V 50 j = if j = s.2.2.1 then F 2 else s.1 50 j := fun j => by rw [hV, mjU_r (by omega), mjU_r (by omega), mjU_k, mjU_r (by omega), mjU_r (by omega)]
  have w51 : ∀ j, V 51 j = if j = s.2.2.1 then nI w9 else s.1 51 j := fun j => by rw [hV, mjU_r (by omega), mjU_k, mjU_r (by omega), mjU_r (by omega), mjU_r (by omega)]
  have wo : ∀ k, (k = 45 ∨ k = 46 ∨ k = 47 ∨ k = 52) → V k = s.1 k := fun k hk => by rw [hV, mjU_r (by omega), mjU_r (by omega), mjU_r (by omega), mjU_r (by omega), mjU_r (by omega)]
  have w44 : V 44 3 = s.1 44 3 := by rw [hV]; rfl
  rw [← hV]
  unfold dR
  show (_ ∧ _ = nI (s.2.2.1 + 1) ∧ _ ∧ _) ∧ (∀ j, j < 5 → _ = V 45 j ∧ _ = V 46 j ∧ _ = V 47 j) ∧ (∀ j, j < 8 → _ = V 52 j) ∧ (okW (V 45) (V 46) s.2.1 ∧ okP (V 52) s.2.2.2) ∧ _
  rw [wo 45 (by omega), wo 46 (by omega), wo 47 (by omega), wo 52 (by omega), lo 8 (by omega) (by omega), lo 9 (by omega) (by omega), lo 10 (by omega) (by omega), lo 12 (by omega) (by omega)]
  refine ⟨⟨(l7 5 (by omega)).trans c1, mjU_eq, (l7 7 (by omega)).trans c3, lw, c4, (l7 8 (by omega)).trans c5, w44.trans c6⟩, h2, h3, h4, fun i hi => ?_, fun i hi => ?_, fun k j hk hk2 hk3 => ?_, ⟨fun k j hk => ?_, fun k hk => ?_, ?_⟩, ⟨?_, ?_, ?_, ?_⟩, fun j hj => ?_, fun j hj => ?_⟩
  · have hi : i < s.2.2.1 + 1 := hi
    by_cases z : i = s.2.2.1
    · subst z
      refine ⟨Y.2.2.2.1 + 75, a, w9, ?_, xN, ?_⟩
      · rw [xP11, if_pos rfl]
      · rw [lN, lN, lN, lN]
        show _ ∧ _ = V 49 s.2.2.1 ∧ _ = V 50 s.2.2.1 ∧ _ ∧ V 51 s.2.2.1 = _ ∧ _ ∧ V 48 s.2.2.1 = _ ∧ -20 ≤ (V 50 s.2.2.1).toInt ∧ (V 50 s.2.2.1).toInt ≤ 20
        rw [w48, w49, w50, w51, show (if s.2.2.1 = s.2.2.1 then nI a else s.1 48 s.2.2.1) = nI a from if_pos rfl, show (if s.2.2.1 = s.2.2.1 then nI b else s.1 49 s.2.2.1) = nI b from if_pos rfl, show (if s.2.2.1 = s.2.2.1 then F 2 else s.1 50 s.2.2.1) = F 2 from if_pos rfl, show (if s.2.2.1 = s.2.2.1 then nI w9 else s.1 51 s.2.2.1) = nI w9 from if_pos rfl]
        have d1 : ¬ F 2 < -20 := fun q => o3 (mIn_lo q)
        have d2 : ¬ 20 < F 2 := fun q => o3 (mIn_hi q)
        have e1 : (-20 : Int32).toInt = -20 := by decide
        have e2 : (20 : Int32).toInt = 20 := by decide
        rw [i32_lt, e1] at d1
        rw [i32_lt, e2] at d2
        exact ⟨rfl, rfl, rfl, rfl, rfl, o4, rfl, by omega, by omega⟩
    · obtain ⟨a9, kd, wn, g1, g2, g3⟩ := h5 i (by omega)
      refine ⟨a9, kd, wn, ?_, xK _ _ g2, ?_⟩
      · rw [xP11, if_neg z]
        exact g1
      · rw [lo a9 (by have := g2.2.1; omega) (by have := g2.1; omega)]
        show _ ∧ _ = V 49 i ∧ _ = V 50 i ∧ _ ∧ V 51 i = _ ∧ _ ∧ V 48 i = _ ∧ -20 ≤ (V 50 i).toInt ∧ (V 50 i).toInt ≤ 20
        rw [w48, w49, w50, w51, if_neg z, if_neg z, if_neg z, if_neg z]
        exact g3
  · unfold dN
    rw [xP11]
    by_cases z : i = s.2.2.1
    · rw [if_pos z]
      exact Or.inr ⟨_, a, rfl, xN⟩
    · rw [if_neg z]
      rcases h6 i hi with g | ⟨a9, kd, g1, g2⟩
      · exact Or.inl g
      · exact Or.inr ⟨a9, kd, g1, xK _ _ g2⟩
  · rw [lo k (by have := h8.2.2; omega) (by omega)]
    exact h7 k j hk hk2 hk3
  · rw [xP k j (by omega) (by omega)]
    exact h8.1 k j hk
  · show (if k = Y.2.2.2.1 + 75 then (lkc a, 0) else Y.2.2.1 k) = _
    rw [if_neg (by have := h8.2.2; omega)]
    exact h8.2.1 k hk
  · show X0.2.2.2.1 ≤ Y.2.2.2.1 + 1
    have := h8.2.2
    omega
  · show n0 ≤ s.2.2.1 + 1
    omega
  · show Y.2.2.2.1 + 1 + n0 = X0.2.2.2.1 + (s.2.2.1 + 1)
    omega
  · show Y.2.2.2.2.1 + 1 + n0 = X0.2.2.2.2.1 + (s.2.2.1 + 1)
    omega
  · show Y.2.2.2.2.2 + 4 + 4 * n0 = X0.2.2.2.2.2 + 4 * (s.2.2.1 + 1)
    omega
  · show V 45 j = _ ∧ V 46 j = _ ∧ V 47 j = _
    rw [wo 45 (by omega), wo 46 (by omega), wo 47 (by omega)]
    exact h10 j hj
  · show V 52 j = _
    rw [wo 52 (by omega)]
    exact h11 j hj
