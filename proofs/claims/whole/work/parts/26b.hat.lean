/-! the words of a throw that the tables alone decide -/
theorem mjT4_B : ∀ w ∈ mjT4.filter (fun w => !goodWord w), w ∈ mjxE.map (fun c => Cond.castable c c) ++ mjxd.map Cond.declares := by decide +kernel
theorem mjT0_B : ∀ w ∈ mjT0.filter (fun w => !goodWord w), w ∈ mjxE.map (fun c => Cond.castable c c) ++ mjxd.map Cond.declares := by decide +kernel
theorem mjT7_B : ∀ w ∈ mjT7.filter (fun w => !goodWord w), w ∈ mjxE.map (fun c => Cond.castable c c) ++ mjxd.map Cond.declares := by decide +kernel
theorem mjTA_B : ∀ w ∈ mjTA.filter (fun w => !goodWord w), w ∈ mjxE.map (fun c => Cond.castable c c) ++ mjxd.map Cond.declares := by decide +kernel
theorem mjTS_B : ∀ w ∈ mjTS.filter (fun w => !goodWord w), w ∈ mjxE.map (fun c => Cond.castable c c) ++ mjxd.map Cond.declares := by decide +kernel
theorem mjhat {K : MK} {s : State} {args : Array Value} {L : List Cond} (hen : mjEn K s s.heap) (h1 : ∀ w ∈ L.filter goodWord, w ∈ mjGT) (h2 : ∀ w ∈ L.filter (fun w => !goodWord w), w ∈ mjxE.map (fun c => Cond.castable c c) ++ mjxd.map Cond.declares) (h : ∀ w ∈ mjGA, w.before args s = true) : ∀ w ∈ L, w.before args s = true := by
  obtain ⟨-, -, -, -, -, z7, z8⟩ := hen.2.2.2.2.2.1.2.2.2.2.2
  refine vx_hat (fun w hw => h w (mjGA_T w (h1 w hw))) h2 fun w hw => ?_
  rcases List.mem_append.mp hw with hw | hw
  · obtain ⟨c, hc, rfl⟩ := List.mem_map.mp hw
    exact va_Nw.use rfl (z7 c hc)
  · obtain ⟨x, hx, rfl⟩ := List.mem_map.mp hw
    exact va_Nw.use rfl (z8 x hx)
theorem mjhat4 {K : MK} {s : State} {args : Array Value} (hen : mjEn K s s.heap) (h : ∀ w ∈ mjGA, w.before args s = true) : ∀ w ∈ mjT4, w.before args s = true := mjhat hen (fun _ hw => List.mem_append_left _ hw) mjT4_B h
theorem mjhat0 {K : MK} {s : State} {args : Array Value} (hen : mjEn K s s.heap) (h : ∀ w ∈ mjGA, w.before args s = true) : ∀ w ∈ mjT0, w.before args s = true := mjhat hen (fun _ hw => List.mem_append_right _ (List.mem_append_left _ hw)) mjT0_B h
theorem mjhat7 {K : MK} {s : State} {args : Array Value} (hen : mjEn K s s.heap) (h : ∀ w ∈ mjGA, w.before args s = true) : ∀ w ∈ mjT7, w.before args s = true := mjhat hen (fun _ hw => List.mem_append_right _ (List.mem_append_right _ (List.mem_append_left _ hw))) mjT7_B h
theorem mjhatA {K : MK} {s : State} {args : Array Value} (hen : mjEn K s s.heap) (h : ∀ w ∈ mjGA, w.before args s = true) : ∀ w ∈ mjTA, w.before args s = true := mjhat hen (fun _ hw => List.mem_append_right _ (List.mem_append_right _ (List.mem_append_right _ (List.mem_append_left _ hw)))) mjTA_B h
theorem mjhatS {K : MK} {s : State} {args : Array Value} (hen : mjEn K s s.heap) (h : ∀ w ∈ mjGA, w.before args s = true) : ∀ w ∈ mjTS, w.before args s = true := mjhat hen (fun _ hw => List.mem_append_right _ (List.mem_append_right _ (List.mem_append_right _ (List.mem_append_right _ hw)))) mjTS_B h
