/-! skill -/
def xSk4 (I : Nat → Nat → Int32) (f : Int32) : Int32 := 1
theorem c_xSk4 (d : Nat) {I : Nat → Nat → Int32} {X : MX} (f : Int32) {a kd : Nat} (hlk : lkK X a kd) (hf : I a 1 = f) : mjEv d nyX4_ownSkill [.ref a] (mjH I X) (.inl (some (.int (xSk4 I f)))) (mjH I X) := by
  refine mjEv.of ?_
  show mjGo d nyX4_ownSkill 0 ([some (.ref a)], [], mjH I X) _
  have e9 : xSk4 I f = 1 := by unfold xSk4; rfl
  rw [e9]
  exact mjGo.ret 2 (fun _ => rfl) rfl
def xSk2 (I : Nat → Nat → Int32) (f : Int32) : Int32 := ((xSk4 I f) + 4)
theorem c_xSk2 (d : Nat) {I : Nat → Nat → Int32} {X : MX} (f : Int32) {a kd : Nat} (hlk : lkK X a kd) (hf : I a 1 = f) : mjEv (d + 1) nyX2_ownSkill [.ref a] (mjH I X) (.inl (some (.int (xSk2 I f)))) (mjH I X) := by
  refine mjEv.of ?_
  show mjGo (d + 1) nyX2_ownSkill 0 ([some (.ref a)], [], mjH I X) _
  refine mjGo.run 1 (pc' := 1) (F' := ([some (.ref a)], [.ref a], mjH I X)) (fun _ => rfl) ?_
  refine mjGo.callL (o := some (.int (xSk4 I f))) (h' := mjH I X) (nx := 4) rfl rfl rfl (hlk.2.1) ⟨_, lk_all hlk, c_xSk4 d f hlk hf⟩ ?_
  show mjGo _ _ 4 ([some (.ref a)], [.int (xSk4 I f)], mjH I X) _
  have e9 : xSk2 I f = ((xSk4 I f) + 4) := by unfold xSk2; rfl
  rw [e9]
  exact mjGo.ret 3 (fun _ => rfl) rfl
def xSk5 (I : Nat → Nat → Int32) (f : Int32) : Int32 := ((xSk4 I f) + f)
theorem c_xSk5 (d : Nat) {I : Nat → Nat → Int32} {X : MX} (f : Int32) {a kd : Nat} (hlk : lkK X a kd) (hf : I a 1 = f) : mjEv (d + 1) nyX5_ownSkill [.ref a] (mjH I X) (.inl (some (.int (xSk5 I f)))) (mjH I X) := by
  refine mjEv.of ?_
  show mjGo (d + 1) nyX5_ownSkill 0 ([some (.ref a)], [], mjH I X) _
  refine mjGo.run 1 (pc' := 1) (F' := ([some (.ref a)], [.ref a], mjH I X)) (fun _ => rfl) ?_
  refine mjGo.callL (o := some (.int (xSk4 I f))) (h' := mjH I X) (nx := 4) rfl rfl rfl (hlk.2.1) ⟨_, lk_all hlk, c_xSk4 d f hlk hf⟩ ?_
  show mjGo _ _ 4 ([some (.ref a)], [.int (xSk4 I f)], mjH I X) _
  refine mjGo.run 1 (pc' := 5) (F' := ([some (.ref a)], [.ref a, .int (xSk4 I f)], mjH I X)) (fun _ => rfl) ?_
  refine mjGo.op (pc' := 8) (F' := ([some (.ref a)], [.int f, .int (xSk4 I f)], mjH I X)) (o := mjgetI [0, 1, 2, 4, 5, 7, 8, 9] 1 8) rfl (fun _ => lkK_get hlk hf) ?_
  have e9 : xSk5 I f = ((xSk4 I f) + f) := by unfold xSk5; rfl
  rw [e9]
  exact mjGo.ret 2 (fun _ => rfl) rfl
def xSk9 (I : Nat → Nat → Int32) (f : Int32) : Int32 := ((xSk4 I f) - 1)
theorem c_xSk9 (d : Nat) {I : Nat → Nat → Int32} {X : MX} (f : Int32) {a kd : Nat} (hlk : lkK X a kd) (hf : I a 1 = f) : mjEv (d + 1) nyX9_ownSkill [.ref a] (mjH I X) (.inl (some (.int (xSk9 I f)))) (mjH I X) := by
  refine mjEv.of ?_
  show mjGo (d + 1) nyX9_ownSkill 0 ([some (.ref a)], [], mjH I X) _
  refine mjGo.run 1 (pc' := 1) (F' := ([some (.ref a)], [.ref a], mjH I X)) (fun _ => rfl) ?_
  refine mjGo.callL (o := some (.int (xSk4 I f))) (h' := mjH I X) (nx := 4) rfl rfl rfl (hlk.2.1) ⟨_, lk_all hlk, c_xSk4 d f hlk hf⟩ ?_
  show mjGo _ _ 4 ([some (.ref a)], [.int (xSk4 I f)], mjH I X) _
  have e9 : xSk9 I f = ((xSk4 I f) - 1) := by unfold xSk9; rfl
  rw [e9]
  exact mjGo.ret 3 (fun _ => rfl) rfl
def xSk0 (I : Nat → Nat → Int32) (f : Int32) : Int32 := ((xSk2 I f) * 3)
theorem c_xSk0 (d : Nat) {I : Nat → Nat → Int32} {X : MX} (f : Int32) {a kd : Nat} (hlk : lkK X a kd) (hf : I a 1 = f) : mjEv (d + 2) nyX0_ownSkill [.ref a] (mjH I X) (.inl (some (.int (xSk0 I f)))) (mjH I X) := by
  refine mjEv.of ?_
  show mjGo (d + 2) nyX0_ownSkill 0 ([some (.ref a)], [], mjH I X) _
  refine mjGo.run 1 (pc' := 1) (F' := ([some (.ref a)], [.ref a], mjH I X)) (fun _ => rfl) ?_
  refine mjGo.callL (o := some (.int (xSk2 I f))) (h' := mjH I X) (nx := 4) rfl rfl rfl (hlk.2.1) ⟨_, lk_all hlk, c_xSk2 d f hlk hf⟩ ?_
  show mjGo _ _ 4 ([some (.ref a)], [.int (xSk2 I f)], mjH I X) _
  have e9 : xSk0 I f = ((xSk2 I f) * 3) := by unfold xSk0; rfl
  rw [e9]
  exact mjGo.ret 3 (fun _ => rfl) rfl
def xSk1 (I : Nat → Nat → Int32) (f : Int32) : Int32 := ((xSk2 I f) * f)
theorem c_xSk1 (d : Nat) {I : Nat → Nat → Int32} {X : MX} (f : Int32) {a kd : Nat} (hlk : lkK X a kd) (hf : I a 1 = f) : mjEv (d + 2) nyX1_ownSkill [.ref a] (mjH I X) (.inl (some (.int (xSk1 I f)))) (mjH I X) := by
  refine mjEv.of ?_
  show mjGo (d + 2) nyX1_ownSkill 0 ([some (.ref a)], [], mjH I X) _
  refine mjGo.run 1 (pc' := 1) (F' := ([some (.ref a)], [.ref a], mjH I X)) (fun _ => rfl) ?_
  refine mjGo.callL (o := some (.int (xSk2 I f))) (h' := mjH I X) (nx := 4) rfl rfl rfl (hlk.2.1) ⟨_, lk_all hlk, c_xSk2 d f hlk hf⟩ ?_
  show mjGo _ _ 4 ([some (.ref a)], [.int (xSk2 I f)], mjH I X) _
  refine mjGo.run 1 (pc' := 5) (F' := ([some (.ref a)], [.ref a, .int (xSk2 I f)], mjH I X)) (fun _ => rfl) ?_
  refine mjGo.op (pc' := 8) (F' := ([some (.ref a)], [.int f, .int (xSk2 I f)], mjH I X)) (o := mjgetI [0, 1, 2, 4, 5, 7, 8, 9] 1 8) rfl (fun _ => lkK_get hlk hf) ?_
  have e9 : xSk1 I f = ((xSk2 I f) * f) := by unfold xSk1; rfl
  rw [e9]
  exact mjGo.ret 2 (fun _ => rfl) rfl
def xSk8 (I : Nat → Nat → Int32) (f : Int32) : Int32 := ((xSk2 I f) - 2)
theorem c_xSk8 (d : Nat) {I : Nat → Nat → Int32} {X : MX} (f : Int32) {a kd : Nat} (hlk : lkK X a kd) (hf : I a 1 = f) : mjEv (d + 2) nyX8_ownSkill [.ref a] (mjH I X) (.inl (some (.int (xSk8 I f)))) (mjH I X) := by
  refine mjEv.of ?_
  show mjGo (d + 2) nyX8_ownSkill 0 ([some (.ref a)], [], mjH I X) _
  refine mjGo.run 1 (pc' := 1) (F' := ([some (.ref a)], [.ref a], mjH I X)) (fun _ => rfl) ?_
  refine mjGo.callL (o := some (.int (xSk2 I f))) (h' := mjH I X) (nx := 4) rfl rfl rfl (hlk.2.1) ⟨_, lk_all hlk, c_xSk2 d f hlk hf⟩ ?_
  show mjGo _ _ 4 ([some (.ref a)], [.int (xSk2 I f)], mjH I X) _
  have e9 : xSk8 I f = ((xSk2 I f) - 2) := by unfold xSk8; rfl
  rw [e9]
  exact mjGo.ret 3 (fun _ => rfl) rfl
def xSk7 (I : Nat → Nat → Int32) (f : Int32) : Int32 := ((xSk1 I f) + 9)
theorem c_xSk7 (d : Nat) {I : Nat → Nat → Int32} {X : MX} (f : Int32) {a kd : Nat} (hlk : lkK X a kd) (hf : I a 1 = f) : mjEv (d + 3) nyX7_ownSkill [.ref a] (mjH I X) (.inl (some (.int (xSk7 I f)))) (mjH I X) := by
  refine mjEv.of ?_
  show mjGo (d + 3) nyX7_ownSkill 0 ([some (.ref a)], [], mjH I X) _
  refine mjGo.run 1 (pc' := 1) (F' := ([some (.ref a)], [.ref a], mjH I X)) (fun _ => rfl) ?_
  refine mjGo.callL (o := some (.int (xSk1 I f))) (h' := mjH I X) (nx := 4) rfl rfl rfl (hlk.2.1) ⟨_, lk_all hlk, c_xSk1 d f hlk hf⟩ ?_
  show mjGo _ _ 4 ([some (.ref a)], [.int (xSk1 I f)], mjH I X) _
  have e9 : xSk7 I f = ((xSk1 I f) + 9) := by unfold xSk7; rfl
  rw [e9]
  exact mjGo.ret 3 (fun _ => rfl) rfl
def skV (kd : Nat) (f : Int32) : Int32 := match kd with
  | 0 => 1
  | 1 => 1 + f
  | 2 => 5
  | 3 => 5 * f
  | 4 => 15
  | 5 => 3
  | 6 => 0
  | _ => 5 * f + 9
theorem v_skill {d a kd : Nat} {I : Nat → Nat → Int32} {X : MX} {f : Int32} (hlk : lkK X a kd) (hf : I a 1 = f) : ∃ j, mjlk (mjT (mjH I X) a).1 [(0, 16), (1, 22), (2, 15), (4, 14), (5, 49), (7, 59), (8, 62), (9, 65)] = some j ∧ mjEv (d + 4) j [.ref a] (mjH I X) (.inl (some (.int (skV kd f)))) (mjH I X) := by
  rw [mjH_T hlk.1, hlk.2.2.1]
  revert hlk
  refine fun hlk => (kd_cases (P := fun kd => lkK X a kd → ∃ j, mjlk (lkc kd) [(0, 16), (1, 22), (2, 15), (4, 14), (5, 49), (7, 59), (8, 62), (9, 65)] = some j ∧ mjEv (d + 4) j [.ref a] (mjH I X) (.inl (some (.int (skV kd f)))) (mjH I X)) hlk.2.2.2 ?_ ?_ ?_ ?_ ?_ ?_ ?_ ?_) hlk
  · exact fun hlk => ⟨_, rfl, c_xSk4 (d + 4) f hlk hf⟩
  · exact fun hlk => ⟨_, rfl, c_xSk5 (d + 3) f hlk hf⟩
  · exact fun hlk => ⟨_, rfl, c_xSk2 (d + 3) f hlk hf⟩
  · exact fun hlk => ⟨_, rfl, c_xSk1 (d + 2) f hlk hf⟩
  · exact fun hlk => ⟨_, rfl, c_xSk0 (d + 2) f hlk hf⟩
  · exact fun hlk => ⟨_, rfl, by rw [show skV 5 f = xSk8 I f from (by decide : (3 : Int32) = (1 + 4) - 2)]; exact c_xSk8 (d + 2) f hlk hf⟩
  · exact fun hlk => ⟨_, rfl, by rw [show skV 6 f = xSk9 I f from (by decide : (0 : Int32) = 1 - 1)]; exact c_xSk9 (d + 3) f hlk hf⟩
  · exact fun hlk => ⟨_, rfl, c_xSk7 (d + 1) f hlk hf⟩
theorem c_rlA (d : Nat) {q : Int32} {I : Nat → Nat → Int32} {X : MX} (hs : xShelf q = 0) : mjEv (d + 1) nyX11_refusalOfLooker [.ref 0, .int q] (mjH I X) (.inl (some (.int (-1)))) (mjH I X) := by
  refine mjEv.of ?_
  show mjGo (d + 1) nyX11_refusalOfLooker 0 ([some (.ref 0), some (.int q)], [], mjH I X) _
  refine mjGo.run 1 (pc' := 1) (F' := ([some (.ref 0), some (.int q)], [.int q], mjH I X)) (fun _ => rfl) ?_
  refine mjGo.call (n := 1) (j := 77) (nx := 4) (o := some (.int 0)) (h' := mjH I X) (fun _ => rfl) ((by have q9 := c_xShelf (d + 0) q (mjH I X); rw [hs] at q9; exact q9)) ?_
  show mjGo _ _ 4 ([some (.ref 0), some (.int q)], [.int 0], mjH I X) _
  exact mjGo.ret 3 (fun _ => rfl) rfl
theorem c_rlB (d : Nat) {e : Nat} {I : Nat → Nat → Int32} {X : MX} (he : e < 8) (hh : I 24 e = 0) : mjEv (d + 1) nyX11_refusalOfLooker [.ref 0, .int (nI e)] (mjH I X) (.inl (some (.int (-11)))) (mjH I X) := by
  refine mjEv.of ?_
  show mjGo (d + 1) nyX11_refusalOfLooker 0 ([some (.ref 0), some (.int (nI e))], [], mjH I X) _
  refine mjGo.run 1 (pc' := 1) (F' := ([some (.ref 0), some (.int (nI e))], [.int (nI e)], mjH I X)) (fun _ => rfl) ?_
  refine mjGo.call (n := 1) (j := 77) (nx := 4) (o := some (.int 1)) (h' := mjH I X) (fun _ => rfl) ((by have q9 := c_xShelf (d + 0) (nI e) (mjH I X); rw [xShelf_1 he] at q9; exact q9)) ?_
  show mjGo _ _ 4 ([some (.ref 0), some (.int (nI e))], [.int 1], mjH I X) _
  refine mjGo.run 4 (pc' := 14) (F' := ([some (.ref 0), some (.int (nI e))], [.int (nI e), .ref 24], mjH I X)) (fun _ => rfl) ?_
  refine mjGo.op (pc' := 15) (F' := ([some (.ref 0), some (.int (nI e))], [.int (I 24 e)], mjH I X)) (o := mjiald 15) rfl (fun _ => mjald_n (n := 8) (by omega) (by decide) (rfl) (rfl)) ?_
  refine mjGo.run 0 (pc' := 15) (F' := ([some (.ref 0), some (.int (nI e))], [.int (I 24 e)], mjH I X)) (fun _ => rfl) ?_
  rw [hh]
  exact mjGo.ret 3 (fun _ => rfl) rfl
theorem c_rlC (d : Nat) {e : Nat} {I : Nat → Nat → Int32} {X : MX} (he : e < 8) (hh : I 24 e = 2) : mjEv (d + 1) nyX11_refusalOfLooker [.ref 0, .int (nI e)] (mjH I X) (.inl (some (.int (-12)))) (mjH I X) := by
  refine mjEv.of ?_
  show mjGo (d + 1) nyX11_refusalOfLooker 0 ([some (.ref 0), some (.int (nI e))], [], mjH I X) _
  refine mjGo.run 1 (pc' := 1) (F' := ([some (.ref 0), some (.int (nI e))], [.int (nI e)], mjH I X)) (fun _ => rfl) ?_
  refine mjGo.call (n := 1) (j := 77) (nx := 4) (o := some (.int 1)) (h' := mjH I X) (fun _ => rfl) ((by have q9 := c_xShelf (d + 0) (nI e) (mjH I X); rw [xShelf_1 he] at q9; exact q9)) ?_
  show mjGo _ _ 4 ([some (.ref 0), some (.int (nI e))], [.int 1], mjH I X) _
  refine mjGo.run 4 (pc' := 14) (F' := ([some (.ref 0), some (.int (nI e))], [.int (nI e), .ref 24], mjH I X)) (fun _ => rfl) ?_
  refine mjGo.op (pc' := 15) (F' := ([some (.ref 0), some (.int (nI e))], [.int (I 24 e)], mjH I X)) (o := mjiald 15) rfl (fun _ => mjald_n (n := 8) (by omega) (by decide) (rfl) (rfl)) ?_
  refine mjGo.run 0 (pc' := 15) (F' := ([some (.ref 0), some (.int (nI e))], [.int (I 24 e)], mjH I X)) (fun _ => rfl) ?_
  rw [hh]
  refine mjGo.run 4 (pc' := 26) (F' := ([some (.ref 0), some (.int (nI e))], [.int (nI e), .ref 24], mjH I X)) (fun _ => rfl) ?_
  refine mjGo.op (pc' := 27) (F' := ([some (.ref 0), some (.int (nI e))], [.int (I 24 e)], mjH I X)) (o := mjiald 27) rfl (fun _ => mjald_n (n := 8) (by omega) (by decide) (rfl) (rfl)) ?_
  refine mjGo.run 0 (pc' := 27) (F' := ([some (.ref 0), some (.int (nI e))], [.int (I 24 e)], mjH I X)) (fun _ => rfl) ?_
  rw [hh]
  exact mjGo.ret 4 (fun _ => rfl) rfl
theorem c_rlD (d : Nat) {e a : Nat} {I : Nat → Nat → Int32} {X : MX} (he : e < 8) (hh : I 24 e = 1) (hP : X.1 25 e = some a) : mjEv (d + 1) nyX11_refusalOfLooker [.ref 0, .int (nI e)] (mjH I X) (.inl (some (.int 0))) (mjH I X) := by
  refine mjEv.of ?_
  show mjGo (d + 1) nyX11_refusalOfLooker 0 ([some (.ref 0), some (.int (nI e))], [], mjH I X) _
  refine mjGo.run 1 (pc' := 1) (F' := ([some (.ref 0), some (.int (nI e))], [.int (nI e)], mjH I X)) (fun _ => rfl) ?_
  refine mjGo.call (n := 1) (j := 77) (nx := 4) (o := some (.int 1)) (h' := mjH I X) (fun _ => rfl) ((by have q9 := c_xShelf (d + 0) (nI e) (mjH I X); rw [xShelf_1 he] at q9; exact q9)) ?_
  show mjGo _ _ 4 ([some (.ref 0), some (.int (nI e))], [.int 1], mjH I X) _
  refine mjGo.run 4 (pc' := 14) (F' := ([some (.ref 0), some (.int (nI e))], [.int (nI e), .ref 24], mjH I X)) (fun _ => rfl) ?_
  refine mjGo.op (pc' := 15) (F' := ([some (.ref 0), some (.int (nI e))], [.int (I 24 e)], mjH I X)) (o := mjiald 15) rfl (fun _ => mjald_n (n := 8) (by omega) (by decide) (rfl) (rfl)) ?_
  refine mjGo.run 0 (pc' := 15) (F' := ([some (.ref 0), some (.int (nI e))], [.int (I 24 e)], mjH I X)) (fun _ => rfl) ?_
  rw [hh]
  refine mjGo.run 4 (pc' := 26) (F' := ([some (.ref 0), some (.int (nI e))], [.int (nI e), .ref 24], mjH I X)) (fun _ => rfl) ?_
  refine mjGo.op (pc' := 27) (F' := ([some (.ref 0), some (.int (nI e))], [.int (I 24 e)], mjH I X)) (o := mjiald 27) rfl (fun _ => mjald_n (n := 8) (by omega) (by decide) (rfl) (rfl)) ?_
  refine mjGo.run 0 (pc' := 27) (F' := ([some (.ref 0), some (.int (nI e))], [.int (I 24 e)], mjH I X)) (fun _ => rfl) ?_
  rw [hh]
  refine mjGo.run 5 (pc' := 36) (F' := ([some (.ref 0), some (.int (nI e))], [.int (nI e), .ref 25], mjH I X)) (fun _ => rfl) ?_
  refine mjGo.op (pc' := 37) (F' := ([some (.ref 0), some (.int (nI e))], [.ref a], mjH I X)) (o := mjaald 14 37) rfl (fun _ => aald_at (n := 8) he (by omega) rfl rfl hP) ?_
  exact mjGo.ret 4 (fun _ => rfl) rfl
theorem c_xSkA (d : Nat) {q : Int32} {I : Nat → Nat → Int32} {X : MX} (hs : xShelf q = 0) : mjEv (d + 2) nyX11_skill [.ref 0, .int q] (mjH I X) (.inl (some (.int (-1)))) (mjH I X) := by
  refine mjEv.of ?_
  show mjGo (d + 2) nyX11_skill 0 ([some (.ref 0), some (.int q), none], [], mjH I X) _
  refine mjGo.run 2 (pc' := 2) (F' := ([some (.ref 0), some (.int q), none], [.int q, .ref 0], mjH I X)) (fun _ => rfl) ?_
  refine mjGo.call (n := 2) (j := 129) (nx := 5) (o := some (.int (-1))) (h' := mjH I X) (fun _ => rfl) (c_rlA _ hs) ?_
  show mjGo _ _ 5 ([some (.ref 0), some (.int q), none], [.int (-1)], mjH I X) _
  exact mjGo.ret 6 (fun _ => rfl) rfl
theorem c_xSkB (d : Nat) {e : Nat} {I : Nat → Nat → Int32} {X : MX} (he : e < 8) (hh : I 24 e = 0) : mjEv (d + 2) nyX11_skill [.ref 0, .int (nI e)] (mjH I X) (.inl (some (.int (-11)))) (mjH I X) := by
  refine mjEv.of ?_
  show mjGo (d + 2) nyX11_skill 0 ([some (.ref 0), some (.int (nI e)), none], [], mjH I X) _
  refine mjGo.run 2 (pc' := 2) (F' := ([some (.ref 0), some (.int (nI e)), none], [.int (nI e), .ref 0], mjH I X)) (fun _ => rfl) ?_
  refine mjGo.call (n := 2) (j := 129) (nx := 5) (o := some (.int (-11))) (h' := mjH I X) (fun _ => rfl) (c_rlB _ he hh) ?_
  show mjGo _ _ 5 ([some (.ref 0), some (.int (nI e)), none], [.int (-11)], mjH I X) _
  exact mjGo.ret 6 (fun _ => rfl) rfl
theorem c_xSkC (d : Nat) {e : Nat} {I : Nat → Nat → Int32} {X : MX} (he : e < 8) (hh : I 24 e = 2) : mjEv (d + 2) nyX11_skill [.ref 0, .int (nI e)] (mjH I X) (.inl (some (.int (-12)))) (mjH I X) := by
  refine mjEv.of ?_
  show mjGo (d + 2) nyX11_skill 0 ([some (.ref 0), some (.int (nI e)), none], [], mjH I X) _
  refine mjGo.run 2 (pc' := 2) (F' := ([some (.ref 0), some (.int (nI e)), none], [.int (nI e), .ref 0], mjH I X)) (fun _ => rfl) ?_
  refine mjGo.call (n := 2) (j := 129) (nx := 5) (o := some (.int (-12))) (h' := mjH I X) (fun _ => rfl) (c_rlC _ he hh) ?_
  show mjGo _ _ 5 ([some (.ref 0), some (.int (nI e)), none], [.int (-12)], mjH I X) _
  exact mjGo.ret 6 (fun _ => rfl) rfl
theorem c_xSkD (d : Nat) {e a kd : Nat} {f : Int32} {I : Nat → Nat → Int32} {X : MX} (he : e < 8) (hh : I 24 e = 1) (hP : X.1 25 e = some a) (hlk : lkK X a kd) (hf : I a 1 = f) : mjEv (d + 5) nyX11_skill [.ref 0, .int (nI e)] (mjH I X) (.inl (some (.int (skV kd f)))) (mjH I X) := by
  refine mjEv.of ?_
  show mjGo (d + 5) nyX11_skill 0 ([some (.ref 0), some (.int (nI e)), none], [], mjH I X) _
  refine mjGo.run 2 (pc' := 2) (F' := ([some (.ref 0), some (.int (nI e)), none], [.int (nI e), .ref 0], mjH I X)) (fun _ => rfl) ?_
  refine mjGo.call (n := 2) (j := 129) (nx := 5) (o := some (.int 0)) (h' := mjH I X) (fun _ => rfl) (c_rlD _ he hh hP) ?_
  show mjGo _ _ 5 ([some (.ref 0), some (.int (nI e)), none], [.int 0], mjH I X) _
  refine mjGo.run 6 (pc' := 19) (F' := ([some (.ref 0), some (.int (nI e)), some (.int 0)], [.int (nI e), .ref 25], mjH I X)) (fun _ => rfl) ?_
  refine mjGo.op (pc' := 20) (F' := ([some (.ref 0), some (.int (nI e)), some (.int 0)], [.ref a], mjH I X)) (o := mjaald 14 20) rfl (fun _ => aald_at (n := 8) he (by omega) rfl rfl hP) ?_
  refine mjGo.callL (o := some (.int (skV kd f))) (h' := mjH I X) (nx := 23) rfl rfl rfl (hlk.2.1) (v_skill hlk hf) ?_
  show mjGo _ _ 23 ([some (.ref 0), some (.int (nI e)), some (.int 0)], [.int (skV kd f)], mjH I X) _
  exact mjGo.ret 1 (fun _ => rfl) rfl
def mSkO (I : Nat → Nat → Int32) (e : Nat) : Int32 := if (I 72 e) = 0 then 1 else (if (I 72 e) = 1 then (1 + (I 73 e)) else (if (I 72 e) = 2 then 5 else (if (I 72 e) = 3 then (5 * (I 73 e)) else (if (I 72 e) = 4 then 15 else (if (I 72 e) = 5 then 3 else (if (I 72 e) = 6 then 0 else ((5 * (I 73 e)) + 9)))))))
theorem c_mSkO (d : Nat) {I : Nat → Nat → Int32} {X : MX} (e : Nat) (he : e < 8) : mjEv d nyX12_skillOf [.ref 43, .int (nI e)] (mjH I X) (.inl (some (.int (mSkO I e)))) (mjH I X) := by
  refine mjEv.of ?_
  show mjGo d nyX12_skillOf 0 ([some (.ref 43), some (.int (nI e)), none], [], mjH I X) _
  refine mjGo.run 3 (pc' := 5) (F' := ([some (.ref 43), some (.int (nI e)), none], [.int (nI e), .ref 73], mjH I X)) (fun _ => rfl) ?_
  refine mjGo.op (pc' := 6) (F' := ([some (.ref 43), some (.int (nI e)), none], [.int (I 73 e)], mjH I X)) (o := mjiald 6) rfl (fun _ => mjald_n (n := 8) (by omega) (by decide) (rfl) (rfl)) ?_
  refine mjGo.run 4 (pc' := 12) (F' := ([some (.ref 43), some (.int (nI e)), some (.int (I 73 e))], [.int (nI e), .ref 72], mjH I X)) (fun _ => rfl) ?_
  refine mjGo.op (pc' := 13) (F' := ([some (.ref 43), some (.int (nI e)), some (.int (I 73 e))], [.int (I 72 e)], mjH I X)) (o := mjiald 13) rfl (fun _ => mjald_n (n := 8) (by omega) (by decide) (rfl) (rfl)) ?_
  refine mjGo.run 1 (pc' := (bif decide ((I 72 e) = 0) then 56 else (bif decide ((I 72 e) = 1) then 58 else (bif decide ((I 72 e) = 2) then 62 else (bif decide ((I 72 e) = 3) then 64 else (bif decide ((I 72 e) = 4) then 68 else (bif decide ((I 72 e) = 5) then 71 else (bif decide ((I 72 e) = 6) then 73 else 75)))))))) (F' := ([some (.ref 43), some (.int (nI e)), some (.int (I 73 e))], [], mjH I X)) (fun _ => rfl) ?_
  refine mjGo.br (fun q1 => ?_) (fun q1 => ?_)
  · show mjGo _ _ 56 _ _
    have e9 : mSkO I e = 1 := by unfold mSkO; rw [if_pos q1]
    rw [e9]
    exact mjGo.ret 2 (fun _ => rfl) rfl
  refine mjGo.br (fun q2 => ?_) (fun q2 => ?_)
  · show mjGo _ _ 58 _ _
    have e9 : mSkO I e = (1 + (I 73 e)) := by unfold mSkO; rw [if_neg q1, if_pos q2]
    rw [e9]
    exact mjGo.ret 4 (fun _ => rfl) rfl
  refine mjGo.br (fun q3 => ?_) (fun q3 => ?_)
  · show mjGo _ _ 62 _ _
    have e9 : mSkO I e = 5 := by unfold mSkO; rw [if_neg q1, if_neg q2, if_pos q3]
    rw [e9]
    exact mjGo.ret 2 (fun _ => rfl) rfl
  refine mjGo.br (fun q4 => ?_) (fun q4 => ?_)
  · show mjGo _ _ 64 _ _
    have e9 : mSkO I e = (5 * (I 73 e)) := by unfold mSkO; rw [if_neg q1, if_neg q2, if_neg q3, if_pos q4]
    rw [e9]
    exact mjGo.ret 4 (fun _ => rfl) rfl
  refine mjGo.br (fun q5 => ?_) (fun q5 => ?_)
  · show mjGo _ _ 68 _ _
    have e9 : mSkO I e = 15 := by unfold mSkO; rw [if_neg q1, if_neg q2, if_neg q3, if_neg q4, if_pos q5]
    rw [e9]
    exact mjGo.ret 2 (fun _ => rfl) rfl
  refine mjGo.br (fun q6 => ?_) (fun q6 => ?_)
  · show mjGo _ _ 71 _ _
    have e9 : mSkO I e = 3 := by unfold mSkO; rw [if_neg q1, if_neg q2, if_neg q3, if_neg q4, if_neg q5, if_pos q6]
    rw [e9]
    exact mjGo.ret 2 (fun _ => rfl) rfl
  refine mjGo.br (fun q7 => ?_) (fun q7 => ?_)
  · show mjGo _ _ 73 _ _
    have e9 : mSkO I e = 0 := by unfold mSkO; rw [if_neg q1, if_neg q2, if_neg q3, if_neg q4, if_neg q5, if_neg q6, if_pos q7]
    rw [e9]
    exact mjGo.ret 2 (fun _ => rfl) rfl
  show mjGo _ _ 75 _ _
  have e9 : mSkO I e = ((5 * (I 73 e)) + 9) := by unfold mSkO; rw [if_neg q1, if_neg q2, if_neg q3, if_neg q4, if_neg q5, if_neg q6, if_neg q7]
  rw [e9]
  exact mjGo.ret 6 (fun _ => rfl) rfl
theorem c_mSkA (d : Nat) {q : Int32} {I : Nat → Nat → Int32} {X : MX} (hs : mIn q 0 7 = 0) : mjEv (d + 2) nyX12_skill [.ref 43, .int q] (mjH I X) (.inl (some (.int (-1)))) (mjH I X) := by
  refine mjEv.of ?_
  show mjGo (d + 2) nyX12_skill 0 ([some (.ref 43), some (.int q)], [], mjH I X) _
  refine mjGo.run 3 (pc' := 4) (F' := ([some (.ref 43), some (.int q)], [.int 7, .int 0, .int q], mjH I X)) (fun _ => rfl) ?_
  refine mjGo.call (n := 3) (j := 132) (nx := 7) (o := some (.int 0)) (h' := mjH I X) (fun _ => rfl) ((by have q9 := c_mIn (d + 1) q 0 7 (mjH I X); rw [hs] at q9; exact q9)) ?_
  show mjGo _ _ 7 ([some (.ref 43), some (.int q)], [.int 0], mjH I X) _
  exact mjGo.ret 3 (fun _ => rfl) rfl
theorem c_mSkB (d : Nat) {e : Nat} {I : Nat → Nat → Int32} {X : MX} (he : e < 8) (hh : I 66 e = 0) : mjEv (d + 2) nyX12_skill [.ref 43, .int (nI e)] (mjH I X) (.inl (some (.int (-11)))) (mjH I X) := by
  refine mjEv.of ?_
  show mjGo (d + 2) nyX12_skill 0 ([some (.ref 43), some (.int (nI e))], [], mjH I X) _
  refine mjGo.run 3 (pc' := 4) (F' := ([some (.ref 43), some (.int (nI e))], [.int 7, .int 0, .int (nI e)], mjH I X)) (fun _ => rfl) ?_
  refine mjGo.call (n := 3) (j := 132) (nx := 7) (o := some (.int 1)) (h' := mjH I X) (fun _ => rfl) ((by have q9 := c_mIn (d + 1) (nI e) 0 7 (mjH I X); rw [mShelf_1 he] at q9; exact q9)) ?_
  show mjGo _ _ 7 ([some (.ref 43), some (.int (nI e))], [.int 1], mjH I X) _
  refine mjGo.run 4 (pc' := 17) (F' := ([some (.ref 43), some (.int (nI e))], [.int (nI e), .ref 66], mjH I X)) (fun _ => rfl) ?_
  refine mjGo.op (pc' := 18) (F' := ([some (.ref 43), some (.int (nI e))], [.int (I 66 e)], mjH I X)) (o := mjiald 18) rfl (fun _ => mjald_n (n := 8) (by omega) (by decide) (rfl) (rfl)) ?_
  refine mjGo.run 0 (pc' := 18) (F' := ([some (.ref 43), some (.int (nI e))], [.int (I 66 e)], mjH I X)) (fun _ => rfl) ?_
  rw [hh]
  exact mjGo.ret 4 (fun _ => rfl) rfl
theorem c_mSkC (d : Nat) {e : Nat} {I : Nat → Nat → Int32} {X : MX} (he : e < 8) (hh : I 66 e = 2) : mjEv (d + 2) nyX12_skill [.ref 43, .int (nI e)] (mjH I X) (.inl (some (.int (-12)))) (mjH I X) := by
  refine mjEv.of ?_
  show mjGo (d + 2) nyX12_skill 0 ([some (.ref 43), some (.int (nI e))], [], mjH I X) _
  refine mjGo.run 3 (pc' := 4) (F' := ([some (.ref 43), some (.int (nI e))], [.int 7, .int 0, .int (nI e)], mjH I X)) (fun _ => rfl) ?_
  refine mjGo.call (n := 3) (j := 132) (nx := 7) (o := some (.int 1)) (h' := mjH I X) (fun _ => rfl) ((by have q9 := c_mIn (d + 1) (nI e) 0 7 (mjH I X); rw [mShelf_1 he] at q9; exact q9)) ?_
  show mjGo _ _ 7 ([some (.ref 43), some (.int (nI e))], [.int 1], mjH I X) _
  refine mjGo.run 4 (pc' := 17) (F' := ([some (.ref 43), some (.int (nI e))], [.int (nI e), .ref 66], mjH I X)) (fun _ => rfl) ?_
  refine mjGo.op (pc' := 18) (F' := ([some (.ref 43), some (.int (nI e))], [.int (I 66 e)], mjH I X)) (o := mjiald 18) rfl (fun _ => mjald_n (n := 8) (by omega) (by decide) (rfl) (rfl)) ?_
  refine mjGo.run 0 (pc' := 18) (F' := ([some (.ref 43), some (.int (nI e))], [.int (I 66 e)], mjH I X)) (fun _ => rfl) ?_
  rw [hh]
  refine mjGo.run 4 (pc' := 31) (F' := ([some (.ref 43), some (.int (nI e))], [.int (nI e), .ref 66], mjH I X)) (fun _ => rfl) ?_
  refine mjGo.op (pc' := 32) (F' := ([some (.ref 43), some (.int (nI e))], [.int (I 66 e)], mjH I X)) (o := mjiald 32) rfl (fun _ => mjald_n (n := 8) (by omega) (by decide) (rfl) (rfl)) ?_
  refine mjGo.run 0 (pc' := 32) (F' := ([some (.ref 43), some (.int (nI e))], [.int (I 66 e)], mjH I X)) (fun _ => rfl) ?_
  rw [hh]
  exact mjGo.ret 5 (fun _ => rfl) rfl
theorem c_mSkD (d : Nat) {e : Nat} {I : Nat → Nat → Int32} {X : MX} (he : e < 8) (hh : I 66 e = 1) : mjEv (d + 2) nyX12_skill [.ref 43, .int (nI e)] (mjH I X) (.inl (some (.int (mSkO I e)))) (mjH I X) := by
  refine mjEv.of ?_
  show mjGo (d + 2) nyX12_skill 0 ([some (.ref 43), some (.int (nI e))], [], mjH I X) _
  refine mjGo.run 3 (pc' := 4) (F' := ([some (.ref 43), some (.int (nI e))], [.int 7, .int 0, .int (nI e)], mjH I X)) (fun _ => rfl) ?_
  refine mjGo.call (n := 3) (j := 132) (nx := 7) (o := some (.int 1)) (h' := mjH I X) (fun _ => rfl) ((by have q9 := c_mIn (d + 1) (nI e) 0 7 (mjH I X); rw [mShelf_1 he] at q9; exact q9)) ?_
  show mjGo _ _ 7 ([some (.ref 43), some (.int (nI e))], [.int 1], mjH I X) _
  refine mjGo.run 4 (pc' := 17) (F' := ([some (.ref 43), some (.int (nI e))], [.int (nI e), .ref 66], mjH I X)) (fun _ => rfl) ?_
  refine mjGo.op (pc' := 18) (F' := ([some (.ref 43), some (.int (nI e))], [.int (I 66 e)], mjH I X)) (o := mjiald 18) rfl (fun _ => mjald_n (n := 8) (by omega) (by decide) (rfl) (rfl)) ?_
  refine mjGo.run 0 (pc' := 18) (F' := ([some (.ref 43), some (.int (nI e))], [.int (I 66 e)], mjH I X)) (fun _ => rfl) ?_
  rw [hh]
  refine mjGo.run 4 (pc' := 31) (F' := ([some (.ref 43), some (.int (nI e))], [.int (nI e), .ref 66], mjH I X)) (fun _ => rfl) ?_
  refine mjGo.op (pc' := 32) (F' := ([some (.ref 43), some (.int (nI e))], [.int (I 66 e)], mjH I X)) (o := mjiald 32) rfl (fun _ => mjald_n (n := 8) (by omega) (by decide) (rfl) (rfl)) ?_
  refine mjGo.run 0 (pc' := 32) (F' := ([some (.ref 43), some (.int (nI e))], [.int (I 66 e)], mjH I X)) (fun _ => rfl) ?_
  rw [hh]
  refine mjGo.run 4 (pc' := 43) (F' := ([some (.ref 43), some (.int (nI e))], [.int (nI e), .ref 43], mjH I X)) (fun _ => rfl) ?_
  refine mjGo.call (n := 2) (j := 194) (nx := 46) (o := some (.int (mSkO I e))) (h' := mjH I X) (fun _ => rfl) (c_mSkO _ e he) ?_
  show mjGo _ _ 46 ([some (.ref 43), some (.int (nI e))], [.int (mSkO I e)], mjH I X) _
  exact mjGo.ret 1 (fun _ => rfl) rfl
theorem mSkO_eq {I : Nat → Nat → Int32} {e kd : Nat} (h : I 72 e = nI kd) (hk : kd < 8) : mSkO I e = skV kd (I 73 e) := by
  unfold mSkO
  rw [h]
  clear h
  match kd, hk with
  | 0, _ => rfl
  | 1, _ => rfl
  | 2, _ => rfl
  | 3, _ => rfl
  | 4, _ => rfl
  | 5, _ => rfl
  | 6, _ => rfl
  | 7, _ => rfl
  | n + 8, h => omega
theorem RI.sh {I : Nat → Nat → Int32} {X : MX} (h : RI I X) {e : Nat} (he : e < 8) : ∃ sz so hh, shR I X e sz so hh := h.2.2.1 e he
theorem k_skill (d : Nat) (q : Int32) : CALL (d + 12) nyX11_skill nyX12_skill [.ref 0, .int q] [.ref 43, .int q] := CALL.pure2 fun I X hR => by
  rcases shelf_cases q with ⟨e, he, rfl⟩ | ⟨h1, h2⟩
  · obtain ⟨sz, so, hh, g1, g2, ⟨g3, g4⟩, ⟨g5, g6, g7⟩, g8, g9⟩ := hR.sh he
    match hh, g7 with
    | 0, _ => exact ⟨_, _, c_xSkB (d + 10) he g3, c_mSkB (d + 10) he g4, rfl⟩
    | 2, _ => exact ⟨_, _, c_xSkC (d + 10) he g3, c_mSkC (d + 10) he g4, rfl⟩
    | 1, _ =>
      obtain ⟨a, kd, hP, hK, l0, l1, l2⟩ := g9 rfl
      exact ⟨_, _, c_xSkD (d + 7) he g3 hP hK l1, c_mSkD (d + 10) he g4, (mSkO_eq l2 hK.2.2.2).symm⟩
  · exact ⟨_, _, c_xSkA (d + 10) h1, c_mSkA (d + 10) h2, rfl⟩
