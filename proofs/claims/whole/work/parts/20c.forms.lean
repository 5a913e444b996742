/-! texts: the forms -/
theorem t_em0 (d : Nat) (h : MH) : mjEv d nyJ0_isEmpty_aae02 [.ref 1000000] h (.inl (some (.int 0))) h := ⟨8, rfl⟩
theorem t_ln0 (d : Nat) (h : MH) : mjEv (d + 3) nyJ0_length_8abf5 [.ref 1000000] h (.inl (some (.int 6))) h := ⟨20, rfl⟩
theorem t_ch0_0 (d : Nat) (h : MH) : mjEv (d + 3) nyJ0_charAt_5068e [.ref 1000000, .int 0] h (.inl (some (.int 51))) h := ⟨60, rfl⟩
theorem t_ch0_1 (d : Nat) (h : MH) : mjEv (d + 3) nyJ0_charAt_5068e [.ref 1000000, .int 1] h (.inl (some (.int 32))) h := ⟨60, rfl⟩
theorem t_ch0_2 (d : Nat) (h : MH) : mjEv (d + 3) nyJ0_charAt_5068e [.ref 1000000, .int 2] h (.inl (some (.int 50))) h := ⟨60, rfl⟩
theorem t_ch0_3 (d : Nat) (h : MH) : mjEv (d + 3) nyJ0_charAt_5068e [.ref 1000000, .int 3] h (.inl (some (.int 32))) h := ⟨60, rfl⟩
theorem t_ch0_4 (d : Nat) (h : MH) : mjEv (d + 3) nyJ0_charAt_5068e [.ref 1000000, .int 4] h (.inl (some (.int 49))) h := ⟨60, rfl⟩
theorem t_ch0_5 (d : Nat) (h : MH) : mjEv (d + 3) nyJ0_charAt_5068e [.ref 1000000, .int 5] h (.inl (some (.int 59))) h := ⟨60, rfl⟩
theorem t_em1 (d : Nat) (h : MH) : mjEv d nyJ0_isEmpty_aae02 [.ref 1000001] h (.inl (some (.int 0))) h := ⟨8, rfl⟩
theorem t_ln1 (d : Nat) (h : MH) : mjEv (d + 3) nyJ0_length_8abf5 [.ref 1000001] h (.inl (some (.int 7))) h := ⟨20, rfl⟩
theorem t_ch1_0 (d : Nat) (h : MH) : mjEv (d + 3) nyJ0_charAt_5068e [.ref 1000001, .int 0] h (.inl (some (.int 49))) h := ⟨60, rfl⟩
theorem t_ch1_1 (d : Nat) (h : MH) : mjEv (d + 3) nyJ0_charAt_5068e [.ref 1000001, .int 1] h (.inl (some (.int 49))) h := ⟨60, rfl⟩
theorem t_ch1_2 (d : Nat) (h : MH) : mjEv (d + 3) nyJ0_charAt_5068e [.ref 1000001, .int 2] h (.inl (some (.int 43))) h := ⟨60, rfl⟩
theorem t_ch1_3 (d : Nat) (h : MH) : mjEv (d + 3) nyJ0_charAt_5068e [.ref 1000001, .int 3] h (.inl (some (.int 50))) h := ⟨60, rfl⟩
theorem t_ch1_4 (d : Nat) (h : MH) : mjEv (d + 3) nyJ0_charAt_5068e [.ref 1000001, .int 4] h (.inl (some (.int 32))) h := ⟨60, rfl⟩
theorem t_ch1_5 (d : Nat) (h : MH) : mjEv (d + 3) nyJ0_charAt_5068e [.ref 1000001, .int 5] h (.inl (some (.int 51))) h := ⟨60, rfl⟩
theorem t_ch1_6 (d : Nat) (h : MH) : mjEv (d + 3) nyJ0_charAt_5068e [.ref 1000001, .int 6] h (.inl (some (.int 59))) h := ⟨60, rfl⟩
theorem t_em2 (d : Nat) (h : MH) : mjEv d nyJ0_isEmpty_aae02 [.ref 1000002] h (.inl (some (.int 0))) h := ⟨8, rfl⟩
theorem t_ln2 (d : Nat) (h : MH) : mjEv (d + 3) nyJ0_length_8abf5 [.ref 1000002] h (.inl (some (.int 2))) h := ⟨20, rfl⟩
theorem t_ch2_0 (d : Nat) (h : MH) : mjEv (d + 3) nyJ0_charAt_5068e [.ref 1000002, .int 0] h (.inl (some (.int 49))) h := ⟨60, rfl⟩
theorem t_ch2_1 (d : Nat) (h : MH) : mjEv (d + 3) nyJ0_charAt_5068e [.ref 1000002, .int 1] h (.inl (some (.int 59))) h := ⟨60, rfl⟩
theorem t_em3 (d : Nat) (h : MH) : mjEv d nyJ0_isEmpty_aae02 [.ref 1000003] h (.inl (some (.int 0))) h := ⟨8, rfl⟩
theorem t_ln3 (d : Nat) (h : MH) : mjEv (d + 3) nyJ0_length_8abf5 [.ref 1000003] h (.inl (some (.int 2))) h := ⟨20, rfl⟩
theorem t_ch3_0 (d : Nat) (h : MH) : mjEv (d + 3) nyJ0_charAt_5068e [.ref 1000003, .int 0] h (.inl (some (.int 51))) h := ⟨60, rfl⟩
theorem t_ch3_1 (d : Nat) (h : MH) : mjEv (d + 3) nyJ0_charAt_5068e [.ref 1000003, .int 1] h (.inl (some (.int 59))) h := ⟨60, rfl⟩
theorem t_em4 (d : Nat) (h : MH) : mjEv d nyJ0_isEmpty_aae02 [.ref 1000004] h (.inl (some (.int 1))) h := ⟨8, rfl⟩
theorem t_fo0 (d : Nat) (h : MH) : mjEv d nyX11_formOf [.int 119] h (.inl (some (.ref 1000000))) h := ⟨8, rfl⟩
theorem t_fo1 (d : Nat) (h : MH) : mjEv d nyX11_formOf [.int 107] h (.inl (some (.ref 1000001))) h := ⟨8, rfl⟩
theorem t_fo2 (d : Nat) (h : MH) : mjEv d nyX11_formOf [.int 108] h (.inl (some (.ref 1000002))) h := ⟨8, rfl⟩
theorem t_fo3 (d : Nat) (h : MH) : mjEv d nyX11_formOf [.int 112] h (.inl (some (.ref 1000003))) h := ⟨8, rfl⟩
theorem t_fo4 (d : Nat) {v : Int32} (h1 : v ≠ 119) (h2 : v ≠ 107) (h3 : v ≠ 108) (h4 : v ≠ 112) (h : MH) : mjEv d nyX11_formOf [.int v] h (.inl (some (.ref 1000004))) h := by
  refine mjEv.of ?_
  show mjGo d nyX11_formOf 0 ([some (.int v)], [], h) _
  refine mjGo.run 2 (pc' := (bif decide (v = 107) then 48 else (bif decide (v = 108) then 52 else (bif decide (v = 112) then 56 else (bif decide (v = 119) then 44 else 60))))) (F' := ([some (.int v)], [], h)) (fun _ => rfl) ?_
  rw [decide_eq_false h2, decide_eq_false h3, decide_eq_false h4, decide_eq_false h1]
  exact mjGo.ret 2 (fun _ => rfl) rfl
