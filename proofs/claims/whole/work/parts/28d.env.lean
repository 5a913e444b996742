/-! what holds at the law's entry -/
theorem st_flags {l : Launch} (h : l.flags = flags0) : l.stackTraces = false := by
  unfold Launch.stackTraces
  rw [h]
  decide +kernel
theorem st_nc {s : State} {b : Nat} (hgv : (Jvm.Cond.and given_1 narrow_1).before #[Value.ref b] s = true) : va_Nc "java/lang/IllegalStateException" "java/lang/UnsupportedOperationException" s ∧ va_Nc "java/lang/IllegalArgumentException" "java/lang/UnsupportedOperationException" s ∧ va_Nc "java/lang/IllegalStateException" "java/lang/IllegalArgumentException" s := by
  have hs := flat_of_before _ hgv
  exact ⟨va_Nc.of (hs (.not (.castable "java/lang/IllegalStateException" "java/lang/UnsupportedOperationException")) (by decide +kernel)), va_Nc.of (hs (.not (.castable "java/lang/IllegalArgumentException" "java/lang/UnsupportedOperationException")) (by decide +kernel)), va_Nc.of (hs (.not (.castable "java/lang/IllegalStateException" "java/lang/IllegalArgumentException")) (by decide +kernel))⟩
theorem st_k1 : ∀ c ∈ mjxE, Cond.castable c c ∈ lw_tbl := by decide +kernel
theorem st_k2 : ∀ x ∈ mjxd, Cond.declares x ∈ lw_tbl := by decide +kernel
theorem st_k3 : ∀ c ∈ mjsubs, c = "LookAtClock$Looker" ∨ Cond.castable c "LookAtClock$Looker" ∈ lw_tbl := by decide +kernel
theorem st_self {s : State} {C : String} {n : Nat} {args : Array Value} (h : (Cond.instantiable C n).before args s = true) : va_Nw (.castable C C) s := by
  obtain ⟨c1, k, hc1, -⟩ := Cond.instantiable_spec h
  have hz : s.vm.assignable c1 c1 = true := by
    show s.vm.assignableAux _ c1 c1 = true
    unfold Vm.assignableAux
    simp
  show (Cond.castable C C).before #[] s = true
  simp [Cond.before, Cond.holds, Cond.value, hc1, hz]
theorem st_k4 : ∀ q ∈ mjnest, Cond.methodLinkNest q.1 q.2.1 q.2.2 mjhost ∈ lw_tbl := by decide +kernel
theorem st_nw {s : State} {b : Nat} (hts : ∀ w ∈ lw_tbl, w.before #[Value.ref b] s = true) : (∀ c ∈ mjxE, va_Nw (.castable c c) s) ∧ (∀ x ∈ mjxd, va_Nw (.declares x) s) ∧ (∀ c ∈ mjsubs, va_Nw (.castable c "LookAtClock$Looker") s) ∧ ∀ q ∈ mjnest, va_Nw (.methodLinkNest q.1 q.2.1 q.2.2 mjhost) s :=
  ⟨fun c hc => va_Nw.of rfl (hts _ (st_k1 c hc)), fun x hx => va_Nw.of rfl (hts _ (st_k2 x hx)), fun c hc => (st_k3 c hc).elim (fun e => by rw [e]; exact st_self (hts (.instantiable "LookAtClock$Looker" 4) (by decide +kernel))) (fun h => va_Nw.of rfl (hts _ h)), fun q hq => va_Nw.of rfl (hts _ (st_k4 q hq))⟩
theorem st_ao {s : State} {b : Nat} (hts : ∀ w ∈ lw_tbl, w.before #[Value.ref b] s = true) : va_AO "LookAtClock$Looker" s ∧ va_AO "LookAtClock$Row" s := ⟨va_AO.of (hts (.arrayOver (.object "LookAtClock$Looker")) (by decide +kernel)), va_AO.of (hts (.arrayOver (.object "LookAtClock$Row")) (by decide +kernel))⟩
theorem st_zq {s : State} {b : Nat} (hts : ∀ w ∈ lw_tbl, w.before #[Value.ref b] s = true) (hgv : (Jvm.Cond.and given_1 narrow_1).before #[Value.ref b] s = true) : vx_Zq Bundle.tN "UNASSIGNED_STACK" Bundle.steD (fun q => s.heap.size ≤ q) s s.heap ∧ vx_Zq Bundle.tN "SUPPRESSED_SENTINEL" Bundle.listD (fun q => s.heap.size ≤ q) s s.heap := by
  have hs := flat_of_before _ hgv
  exact ⟨vx_Zqof (hts (.laysStatic Bundle.tN "UNASSIGNED_STACK" Bundle.steD) (by decide +kernel)) (hts (.initialized Bundle.tN) (by decide +kernel)) (hs (.isRef (.static Bundle.tN "UNASSIGNED_STACK" Bundle.steD)) (by decide +kernel)) (fun a h1 h2 => by omega), vx_Zqof (hts (.laysStatic Bundle.tN "SUPPRESSED_SENTINEL" Bundle.listD) (by decide +kernel)) (hts (.initialized Bundle.tN) (by decide +kernel)) (hs (.isRef (.static Bundle.tN "SUPPRESSED_SENTINEL" Bundle.listD)) (by decide +kernel)) (fun a h1 h2 => by omega)⟩
