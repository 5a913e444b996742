/-! the law to its loop -/
theorem law_cons {L : Nat} {xs : Nat → Int32} {e1 e2 e3 : MOp} (hm : ∀ pc, mjMn (pL L xs e1 e2 e3 pc)) (d : Nat) {r : MO × MH → Prop} (g : mjGoL (pL L xs e1 e2 e3) (d + 2) 23 ([some (.ref 2000000), some (.ref 0), some (.ref 43), some (.ref 74), some (.int 0), none, none, none], [], cs148 xs L) r) : mjGoL (pL L xs e1 e2 e3) (d + 2) 0 ([some (.ref 2000000), none, none, none, none, none, none, none], [], cs0 xs L) r := by
  refine mjGoL.run 2 (pc' := 4) (F' := ([some (.ref 2000000), none, none, none, none, none, none, none], [.ref 0, .ref 0], cs1 xs L)) (fun _ => rfl) ?_
  refine mjGoL.call hm (n := 1) (j := 76) (nx := 7) (o := none) (h' := cs86 xs L) (fun _ => rfl) (ev1 _ xs L) ?_
  show mjGoL _ _ 7 ([some (.ref 2000000), none, none, none, none, none, none, none], [.ref 0], cs86 xs L) _
  refine mjGoL.run 3 (pc' := 12) (F' := ([some (.ref 2000000), some (.ref 0), none, none, none, none, none, none], [.ref 43, .ref 43], cs87 xs L)) (fun _ => rfl) ?_
  refine mjGoL.call hm (n := 1) (j := 131) (nx := 15) (o := none) (h' := cs147 xs L) (fun _ => rfl) (ev87 _ xs L) ?_
  show mjGoL _ _ 15 ([some (.ref 2000000), some (.ref 0), none, none, none, none, none, none], [.ref 43], cs147 xs L) _
  refine mjGoL.run 6 (pc' := 23) (F' := ([some (.ref 2000000), some (.ref 0), some (.ref 43), some (.ref 74), some (.int 0), none, none, none], [], cs148 xs L)) (fun _ => rfl) ?_
  exact g
theorem cs_P : ∀ a : Fin 75, ∀ j : Fin 45, mjfix a.val j.val = none ∨ (cs148 (fun _ => 0) 0).2.1 a.val j.val = mjfix a.val j.val := by decide +kernel
theorem cs_T {xs : Nat → Int32} {L : Nat} : ∀ a, a < 75 → (cs148 xs L).2.2.2.1 a = mjlay a
  | 0, _ => rfl
  | 1, _ => rfl
  | 2, _ => rfl
  | 3, _ => rfl
  | 4, _ => rfl
  | 5, _ => rfl
  | 6, _ => rfl
  | 7, _ => rfl
  | 8, _ => rfl
  | 9, _ => rfl
  | 10, _ => rfl
  | 11, _ => rfl
  | 12, _ => rfl
  | 13, _ => rfl
  | 14, _ => rfl
  | 15, _ => rfl
  | 16, _ => rfl
  | 17, _ => rfl
  | 18, _ => rfl
  | 19, _ => rfl
  | 20, _ => rfl
  | 21, _ => rfl
  | 22, _ => rfl
  | 23, _ => rfl
  | 24, _ => rfl
  | 25, _ => rfl
  | 26, _ => rfl
  | 27, _ => rfl
  | 28, _ => rfl
  | 29, _ => rfl
  | 30, _ => rfl
  | 31, _ => rfl
  | 32, _ => rfl
  | 33, _ => rfl
  | 34, _ => rfl
  | 35, _ => rfl
  | 36, _ => rfl
  | 37, _ => rfl
  | 38, _ => rfl
  | 39, _ => rfl
  | 40, _ => rfl
  | 41, _ => rfl
  | 42, _ => rfl
  | 43, _ => rfl
  | 44, _ => rfl
  | 45, _ => rfl
  | 46, _ => rfl
  | 47, _ => rfl
  | 48, _ => rfl
  | 49, _ => rfl
  | 50, _ => rfl
  | 51, _ => rfl
  | 52, _ => rfl
  | 53, _ => rfl
  | 54, _ => rfl
  | 55, _ => rfl
  | 56, _ => rfl
  | 57, _ => rfl
  | 58, _ => rfl
  | 59, _ => rfl
  | 60, _ => rfl
  | 61, _ => rfl
  | 62, _ => rfl
  | 63, _ => rfl
  | 64, _ => rfl
  | 65, _ => rfl
  | 66, _ => rfl
  | 67, _ => rfl
  | 68, _ => rfl
  | 69, _ => rfl
  | 70, _ => rfl
  | 71, _ => rfl
  | 72, _ => rfl
  | 73, _ => rfl
  | 74, _ => rfl
  | n + 75, h => by omega
