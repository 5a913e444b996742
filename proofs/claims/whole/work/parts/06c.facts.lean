/-! facts of constants, fields, descriptors, calls -/
theorem kic_m1 : Int32.ofInt (-1) = (-1) := by decide
theorem kic_0 : Int32.ofInt 0 = 0 := by decide
theorem kic_1 : Int32.ofInt 1 = 1 := by decide
theorem kic_2 : Int32.ofInt 2 = 2 := by decide
theorem kic_3 : Int32.ofInt 3 = 3 := by decide
theorem kic_4 : Int32.ofInt 4 = 4 := by decide
theorem kic_5 : Int32.ofInt 5 = 5 := by decide
theorem kbp_m128 : (Int8.ofInt (-128)).toInt32 = (-128) := by decide
theorem kbp_m20 : (Int8.ofInt (-20)).toInt32 = (-20) := by decide
theorem kbp_m15 : (Int8.ofInt (-15)).toInt32 = (-15) := by decide
theorem kbp_m14 : (Int8.ofInt (-14)).toInt32 = (-14) := by decide
theorem kbp_m13 : (Int8.ofInt (-13)).toInt32 = (-13) := by decide
theorem kbp_m12 : (Int8.ofInt (-12)).toInt32 = (-12) := by decide
theorem kbp_m11 : (Int8.ofInt (-11)).toInt32 = (-11) := by decide
theorem kbp_m4 : (Int8.ofInt (-4)).toInt32 = (-4) := by decide
theorem kbp_m3 : (Int8.ofInt (-3)).toInt32 = (-3) := by decide
theorem kbp_6 : (Int8.ofInt 6).toInt32 = 6 := by decide
theorem kbp_7 : (Int8.ofInt 7).toInt32 = 7 := by decide
theorem kbp_8 : (Int8.ofInt 8).toInt32 = 8 := by decide
theorem kbp_9 : (Int8.ofInt 9).toInt32 = 9 := by decide
theorem kbp_10 : (Int8.ofInt 10).toInt32 = 10 := by decide
theorem kbp_11 : (Int8.ofInt 11).toInt32 = 11 := by decide
theorem kbp_12 : (Int8.ofInt 12).toInt32 = 12 := by decide
theorem kbp_13 : (Int8.ofInt 13).toInt32 = 13 := by decide
theorem kbp_15 : (Int8.ofInt 15).toInt32 = 15 := by decide
theorem kbp_16 : (Int8.ofInt 16).toInt32 = 16 := by decide
theorem kbp_20 : (Int8.ofInt 20).toInt32 = 20 := by decide
theorem kbp_32 : (Int8.ofInt 32).toInt32 = 32 := by decide
theorem kbp_43 : (Int8.ofInt 43).toInt32 = 43 := by decide
theorem kbp_45 : (Int8.ofInt 45).toInt32 = 45 := by decide
theorem kbp_48 : (Int8.ofInt 48).toInt32 = 48 := by decide
theorem kbp_49 : (Int8.ofInt 49).toInt32 = 49 := by decide
theorem kbp_51 : (Int8.ofInt 51).toInt32 = 51 := by decide
theorem kbp_57 : (Int8.ofInt 57).toInt32 = 57 := by decide
theorem kbp_59 : (Int8.ofInt 59).toInt32 = 59 := by decide
theorem kbp_60 : (Int8.ofInt 60).toInt32 = 60 := by decide
theorem kbp_100 : (Int8.ofInt 100).toInt32 = 100 := by decide
theorem kbp_107 : (Int8.ofInt 107).toInt32 = 107 := by decide
theorem kbp_108 : (Int8.ofInt 108).toInt32 = 108 := by decide
theorem kbp_112 : (Int8.ofInt 112).toInt32 = 112 := by decide
theorem kbp_119 : (Int8.ofInt 119).toInt32 = 119 := by decide
theorem ksp_m32768 : (Int16.ofInt (-32768)).toInt32 = (-32768) := by decide
theorem ksp_m2000 : (Int16.ofInt (-2000)).toInt32 = (-2000) := by decide
theorem ksp_m1000 : (Int16.ofInt (-1000)).toInt32 = (-1000) := by decide
theorem ksp_200 : (Int16.ofInt 200).toInt32 = 200 := by decide
theorem ksp_255 : (Int16.ofInt 255).toInt32 = 255 := by decide
theorem ksp_719 : (Int16.ofInt 719).toInt32 = 719 := by decide
theorem ksp_720 : (Int16.ofInt 720).toInt32 = 720 := by decide
theorem ksp_800 : (Int16.ofInt 800).toInt32 = 800 := by decide
theorem ksp_12345 : (Int16.ofInt 12345).toInt32 = 12345 := by decide
def mjmax : Int32 → Int32 → Int32 := fun x y => if x < y then y else x
def mjmin : Int32 → Int32 → Int32 := fun x y => if y < x then y else x
theorem mjG_lay : mjLay mjG
  | 0, q, h => by
    cases h
    intro w hw
    obtain ⟨k, hk, rfl⟩ := List.mem_map.mp hw
    have hk : k < 4 := List.mem_range.mp hk
    match k, hk with
    | 0, _ => exact mg0
    | 1, _ => exact mg1
    | 2, _ => exact mg2
    | 3, _ => exact mg3
    | n + 4, hk => exact absurd hk (by omega)
  | 1, q, h => by
    cases h
    intro w hw
    obtain ⟨k, hk, rfl⟩ := List.mem_map.mp hw
    have hk : k < 4 := List.mem_range.mp hk
    match k, hk with
    | 0, _ => exact mg4
    | 1, _ => exact mg5
    | 2, _ => exact mg6
    | 3, _ => exact mg7
    | n + 4, hk => exact absurd hk (by omega)
  | 2, q, h => by
    cases h
    intro w hw
    obtain ⟨k, hk, rfl⟩ := List.mem_map.mp hw
    have hk : k < 4 := List.mem_range.mp hk
    match k, hk with
    | 0, _ => exact mg8
    | 1, _ => exact mg9
    | 2, _ => exact mg10
    | 3, _ => exact mg11
    | n + 4, hk => exact absurd hk (by omega)
  | 3, q, h => by
    cases h
    intro w hw
    obtain ⟨k, hk, rfl⟩ := List.mem_map.mp hw
    have hk : k < 13 := List.mem_range.mp hk
    match k, hk with
    | 0, _ => exact mg12
    | 1, _ => exact mg13
    | 2, _ => exact mg14
    | 3, _ => exact mg15
    | 4, _ => exact mg16
    | 5, _ => exact mg17
    | 6, _ => exact mg18
    | 7, _ => exact mg19
    | 8, _ => exact mg20
    | 9, _ => exact mg21
    | 10, _ => exact mg22
    | 11, _ => exact mg23
    | 12, _ => exact mg24
    | n + 13, hk => exact absurd hk (by omega)
  | 4, q, h => by
    cases h
    intro w hw
    obtain ⟨k, hk, rfl⟩ := List.mem_map.mp hw
    have hk : k < 4 := List.mem_range.mp hk
    match k, hk with
    | 0, _ => exact mg25
    | 1, _ => exact mg26
    | 2, _ => exact mg27
    | 3, _ => exact mg28
    | n + 4, hk => exact absurd hk (by omega)
  | 5, q, h => by
    cases h
    intro w hw
    obtain ⟨k, hk, rfl⟩ := List.mem_map.mp hw
    have hk : k < 4 := List.mem_range.mp hk
    match k, hk with
    | 0, _ => exact mg29
    | 1, _ => exact mg30
    | 2, _ => exact mg31
    | 3, _ => exact mg32
    | n + 4, hk => exact absurd hk (by omega)
  | 6, q, h => by
    cases h
    intro w hw
    obtain ⟨k, hk, rfl⟩ := List.mem_map.mp hw
    have hk : k < 3 := List.mem_range.mp hk
    match k, hk with
    | 0, _ => exact mg33
    | 1, _ => exact mg34
    | 2, _ => exact mg35
    | n + 3, hk => exact absurd hk (by omega)
  | 7, q, h => by
    cases h
    intro w hw
    obtain ⟨k, hk, rfl⟩ := List.mem_map.mp hw
    have hk : k < 4 := List.mem_range.mp hk
    match k, hk with
    | 0, _ => exact mg36
    | 1, _ => exact mg37
    | 2, _ => exact mg38
    | 3, _ => exact mg39
    | n + 4, hk => exact absurd hk (by omega)
  | 8, q, h => by
    cases h
    intro w hw
    obtain ⟨k, hk, rfl⟩ := List.mem_map.mp hw
    have hk : k < 4 := List.mem_range.mp hk
    match k, hk with
    | 0, _ => exact mg40
    | 1, _ => exact mg41
    | 2, _ => exact mg42
    | 3, _ => exact mg43
    | n + 4, hk => exact absurd hk (by omega)
  | 9, q, h => by
    cases h
    intro w hw
    obtain ⟨k, hk, rfl⟩ := List.mem_map.mp hw
    have hk : k < 4 := List.mem_range.mp hk
    match k, hk with
    | 0, _ => exact mg44
    | 1, _ => exact mg45
    | 2, _ => exact mg46
    | 3, _ => exact mg47
    | n + 4, hk => exact absurd hk (by omega)
  | 10, q, h => by
    cases h
    intro w hw
    obtain ⟨k, hk, rfl⟩ := List.mem_map.mp hw
    have hk : k < 9 := List.mem_range.mp hk
    match k, hk with
    | 0, _ => exact mg48
    | 1, _ => exact mg49
    | 2, _ => exact mg50
    | 3, _ => exact mg51
    | 4, _ => exact mg52
    | 5, _ => exact mg53
    | 6, _ => exact mg54
    | 7, _ => exact mg55
    | 8, _ => exact mg56
    | n + 9, hk => exact absurd hk (by omega)
  | 11, q, h => by
    cases h
    intro w hw
    obtain ⟨k, hk, rfl⟩ := List.mem_map.mp hw
    have hk : k < 10 := List.mem_range.mp hk
    match k, hk with
    | 0, _ => exact mg57
    | 1, _ => exact mg58
    | 2, _ => exact mg59
    | 3, _ => exact mg60
    | 4, _ => exact mg61
    | 5, _ => exact mg62
    | 6, _ => exact mg63
    | 7, _ => exact mg64
    | 8, _ => exact mg65
    | 9, _ => exact mg66
    | n + 10, hk => exact absurd hk (by omega)
  | 12, q, h => by
    cases h
    intro w hw
    obtain ⟨k, hk, rfl⟩ := List.mem_map.mp hw
    have hk : k < 41 := List.mem_range.mp hk
    match k, hk with
    | 0, _ => exact mg67
    | 1, _ => exact mg68
    | 2, _ => exact mg69
    | 3, _ => exact mg70
    | 4, _ => exact mg71
    | 5, _ => exact mg72
    | 6, _ => exact mg73
    | 7, _ => exact mg74
    | 8, _ => exact mg75
    | 9, _ => exact mg76
    | 10, _ => exact mg77
    | 11, _ => exact mg78
    | 12, _ => exact mg79
    | 13, _ => exact mg80
    | 14, _ => exact mg81
    | 15, _ => exact mg82
    | 16, _ => exact mg83
    | 17, _ => exact mg84
    | 18, _ => exact mg85
    | 19, _ => exact mg86
    | 20, _ => exact mg87
    | 21, _ => exact mg88
    | 22, _ => exact mg89
    | 23, _ => exact mg90
    | 24, _ => exact mg91
    | 25, _ => exact mg92
    | 26, _ => exact mg93
    | 27, _ => exact mg94
    | 28, _ => exact mg95
    | 29, _ => exact mg96
    | 30, _ => exact mg97
    | 31, _ => exact mg98
    | 32, _ => exact mg99
    | 33, _ => exact mg100
    | 34, _ => exact mg101
    | 35, _ => exact mg102
    | 36, _ => exact mg103
    | 37, _ => exact mg104
    | 38, _ => exact mg105
    | 39, _ => exact mg106
    | 40, _ => exact mg107
    | n + 41, hk => exact absurd hk (by omega)
  | n + 13, q, h => by simp [vwCl] at h
theorem fo0 : mjfok [0, 1, 2, 4, 5, 7, 8, 9] 0 false "LookAtClock$Looker" "number" "I" = true := by decide +kernel
theorem fo1 : mjfok [0, 1, 2, 4, 5, 7, 8, 9] 1 false "LookAtClock$Looker" "figure" "I" = true := by decide +kernel
theorem fo2 : mjfok [0, 1, 2, 4, 5, 7, 8, 9] 2 false "LookAtClock$Looker" "drift" "I" = true := by decide +kernel
theorem fo3 : mjfok [0, 1, 2, 4, 5, 7, 8, 9] 3 false "LookAtClock$Looker" "wake" "I" = true := by decide +kernel
theorem fo4 : mjfok [3] 3 false "LookAtClock$Day" "figure" "I" = true := by decide +kernel
theorem fo5 : mjfok [3] 5 false "LookAtClock$Day" "law" "I" = true := by decide +kernel
theorem fo6 : mjfok [3] 0 true "LookAtClock$Day" "looks" "[I" = true := by decide +kernel
theorem fo7 : mjfok [3] 1 true "LookAtClock$Day" "comings" "[I" = true := by decide +kernel
theorem fo8 : mjfok [3] 4 false "LookAtClock$Day" "drift" "I" = true := by decide +kernel
theorem fo9 : mjfok [3] 6 false "LookAtClock$Day" "latest" "I" = true := by decide +kernel
theorem fo10 : mjfok [10] 7 false "LookAtClock$Town" "planCount" "I" = true := by decide +kernel
theorem fo11 : mjfok [10] 4 true "LookAtClock$Town" "plan" "[I" = true := by decide +kernel
theorem fo12 : mjfok [3] 2 true "LookAtClock$Day" "town" "LLookAtClock$Town;" = true := by decide +kernel
theorem fo13 : mjfok [3] 12 false "LookAtClock$Day" "paid" "I" = true := by decide +kernel
theorem fo14 : mjfok [3] 9 false "LookAtClock$Day" "cost" "I" = true := by decide +kernel
theorem fo15 : mjfok [3] 8 false "LookAtClock$Day" "lookCount" "I" = true := by decide +kernel
theorem fo16 : mjfok [3] 7 false "LookAtClock$Day" "free" "I" = true := by decide +kernel
theorem fo17 : mjfok [10] 5 false "LookAtClock$Town" "workCount" "I" = true := by decide +kernel
theorem fo18 : mjfok [10] 0 true "LookAtClock$Town" "at" "[I" = true := by decide +kernel
theorem fo19 : mjfok [3] 10 false "LookAtClock$Day" "late" "I" = true := by decide +kernel
theorem fo20 : mjfok [3] 11 false "LookAtClock$Day" "idle" "I" = true := by decide +kernel
theorem fo21 : mjfok [10] 2 true "LookAtClock$Town" "late" "[I" = true := by decide +kernel
theorem fo22 : mjfok [10] 1 true "LookAtClock$Town" "walk" "[I" = true := by decide +kernel
theorem fo23 : mjfok [6] 0 true "LookAtClock$Row" "values" "[I" = true := by decide +kernel
theorem fo24 : mjfok [6] 1 false "LookAtClock$Row" "sort" "I" = true := by decide +kernel
theorem fo25 : mjfok [6] 2 false "LookAtClock$Row" "size" "I" = true := by decide +kernel
theorem fo26 : mjfok [10] 3 true "LookAtClock$Town" "lookers" "[LLookAtClock$Looker;" = true := by decide +kernel
theorem fo27 : mjfok [10] 6 false "LookAtClock$Town" "lookerCount" "I" = true := by decide +kernel
theorem fo28 : mjfok [10] 8 false "LookAtClock$Town" "law" "I" = true := by decide +kernel
theorem fo29 : mjfok [11] 0 true "LookAtClock" "current" "LLookAtClock$Town;" = true := by decide +kernel
theorem fo30 : mjfok [11] 1 true "LookAtClock" "draft" "LLookAtClock$Town;" = true := by decide +kernel
theorem fo31 : mjfok [11] 2 true "LookAtClock" "pictured" "LLookAtClock$Town;" = true := by decide +kernel
theorem fo32 : mjfok [11] 3 false "LookAtClock" "hasPicture" "Z" = true := by decide +kernel
theorem fo33 : mjfok [11] 4 true "LookAtClock" "account" "LLookAtClock$Day;" = true := by decide +kernel
theorem fo34 : mjfok [11] 5 true "LookAtClock" "told" "[I" = true := by decide +kernel
theorem fo35 : mjfok [11] 6 true "LookAtClock" "costs" "[I" = true := by decide +kernel
theorem fo36 : mjfok [11] 7 true "LookAtClock" "held" "[I" = true := by decide +kernel
theorem fo37 : mjfok [11] 8 true "LookAtClock" "heldLookers" "[LLookAtClock$Looker;" = true := by decide +kernel
theorem fo38 : mjfok [11] 9 true "LookAtClock" "heldRows" "[LLookAtClock$Row;" = true := by decide +kernel
theorem fo39 : mjfok [12] 0 true "LookAtClockModel" "many" "[I" = true := by decide +kernel
theorem fo40 : mjfok [12] 1 true "LookAtClockModel" "at" "[I" = true := by decide +kernel
theorem fo41 : mjfok [12] 2 true "LookAtClockModel" "walk" "[I" = true := by decide +kernel
theorem fo42 : mjfok [12] 3 true "LookAtClockModel" "fine" "[I" = true := by decide +kernel
theorem fo43 : mjfok [12] 4 true "LookAtClockModel" "kind" "[I" = true := by decide +kernel
theorem fo44 : mjfok [12] 5 true "LookAtClockModel" "figure" "[I" = true := by decide +kernel
theorem fo45 : mjfok [12] 6 true "LookAtClockModel" "drift" "[I" = true := by decide +kernel
theorem fo46 : mjfok [12] 7 true "LookAtClockModel" "wake" "[I" = true := by decide +kernel
theorem fo47 : mjfok [12] 8 true "LookAtClockModel" "plan" "[I" = true := by decide +kernel
theorem fo48 : mjfok [12] 10 true "LookAtClockModel" "manyThen" "[I" = true := by decide +kernel
theorem fo49 : mjfok [12] 11 true "LookAtClockModel" "atThen" "[I" = true := by decide +kernel
theorem fo50 : mjfok [12] 12 true "LookAtClockModel" "walkThen" "[I" = true := by decide +kernel
theorem fo51 : mjfok [12] 13 true "LookAtClockModel" "fineThen" "[I" = true := by decide +kernel
theorem fo52 : mjfok [12] 14 true "LookAtClockModel" "kindThen" "[I" = true := by decide +kernel
theorem fo53 : mjfok [12] 15 true "LookAtClockModel" "figureThen" "[I" = true := by decide +kernel
theorem fo54 : mjfok [12] 16 true "LookAtClockModel" "driftThen" "[I" = true := by decide +kernel
theorem fo55 : mjfok [12] 17 true "LookAtClockModel" "wakeThen" "[I" = true := by decide +kernel
theorem fo56 : mjfok [12] 18 true "LookAtClockModel" "planThen" "[I" = true := by decide +kernel
theorem fo57 : mjfok [12] 21 true "LookAtClockModel" "looked" "[I" = true := by decide +kernel
theorem fo58 : mjfok [12] 25 true "LookAtClockModel" "came" "[I" = true := by decide +kernel
theorem fo59 : mjfok [12] 26 true "LookAtClockModel" "costs" "[I" = true := by decide +kernel
theorem fo60 : mjfok [12] 31 true "LookAtClockModel" "field" "[I" = true := by decide +kernel
theorem fo61 : mjfok [12] 32 true "LookAtClockModel" "holds" "[I" = true := by decide +kernel
theorem fo62 : mjfok [12] 33 true "LookAtClockModel" "sort" "[I" = true := by decide +kernel
theorem fo63 : mjfok [12] 34 true "LookAtClockModel" "size" "[I" = true := by decide +kernel
theorem fo64 : mjfok [12] 35 true "LookAtClockModel" "items" "[I" = true := by decide +kernel
theorem fo65 : mjfok [12] 36 true "LookAtClockModel" "moved" "[I" = true := by decide +kernel
theorem fo66 : mjfok [12] 37 true "LookAtClockModel" "numberOf" "[I" = true := by decide +kernel
theorem fo67 : mjfok [12] 38 true "LookAtClockModel" "kindOf" "[I" = true := by decide +kernel
theorem fo68 : mjfok [12] 39 true "LookAtClockModel" "figureOf" "[I" = true := by decide +kernel
theorem fo69 : mjfok [12] 9 false "LookAtClockModel" "kept" "Z" = true := by decide +kernel
theorem fo70 : mjfok [12] 19 false "LookAtClockModel" "paid" "I" = true := by decide +kernel
theorem fo71 : mjfok [12] 20 false "LookAtClockModel" "looks" "I" = true := by decide +kernel
theorem fo72 : mjfok [12] 22 false "LookAtClockModel" "late" "I" = true := by decide +kernel
theorem fo73 : mjfok [12] 23 false "LookAtClockModel" "pence" "I" = true := by decide +kernel
theorem fo74 : mjfok [12] 24 false "LookAtClockModel" "idle" "I" = true := by decide +kernel
theorem fo75 : mjfok [12] 29 false "LookAtClockModel" "place" "I" = true := by decide +kernel
theorem fo76 : mjfok [12] 28 false "LookAtClockModel" "to" "I" = true := by decide +kernel
theorem fo77 : mjfok [12] 27 false "LookAtClockModel" "from" "I" = true := by decide +kernel
theorem fo78 : mjfok [12] 30 false "LookAtClockModel" "well" "Z" = true := by decide +kernel
theorem fo79 : mjfok [12] 40 false "LookAtClockModel" "thrown" "I" = true := by decide +kernel
def mjfinb (cs : List Nat) (j : Nat) (b : Bool) : Bool := cs.all (fun c => match vwCl[c]? with
  | some q => (q.2.1 j).2.2.2 == b
  | none => true)
theorem mjfin_of {cs : List Nat} {j : Nat} {b : Bool} (h : mjfinb cs j b = true) : ∀ c ∈ cs, ∀ q, vwCl[c]? = some q → (q.2.1 j).2.2.2 = b := fun c hc q hq => by
  have := List.all_eq_true.mp h c hc
  rw [hq] at this
  simpa using this
theorem fn0 : mjfinb [0, 1, 2, 4, 5, 7, 8, 9] 0 true = true := by decide +kernel
theorem fn1 : mjfinb [0, 1, 2, 4, 5, 7, 8, 9] 1 true = true := by decide +kernel
theorem fn2 : mjfinb [0, 1, 2, 4, 5, 7, 8, 9] 2 true = true := by decide +kernel
theorem fn3 : mjfinb [0, 1, 2, 4, 5, 7, 8, 9] 3 true = true := by decide +kernel
theorem fn4 : mjfinb [3] 0 true = true := by decide +kernel
theorem fn5 : mjfinb [3] 1 true = true := by decide +kernel
theorem fn6 : mjfinb [3] 12 false = true := by decide +kernel
theorem fn7 : mjfinb [3] 9 false = true := by decide +kernel
theorem fn8 : mjfinb [3] 6 false = true := by decide +kernel
theorem fn9 : mjfinb [3] 8 false = true := by decide +kernel
theorem fn10 : mjfinb [3] 10 false = true := by decide +kernel
theorem fn11 : mjfinb [3] 11 false = true := by decide +kernel
theorem fn12 : mjfinb [3] 7 false = true := by decide +kernel
theorem fn13 : mjfinb [3] 2 false = true := by decide +kernel
theorem fn14 : mjfinb [3] 3 false = true := by decide +kernel
theorem fn15 : mjfinb [3] 4 false = true := by decide +kernel
theorem fn16 : mjfinb [3] 5 false = true := by decide +kernel
theorem fn17 : mjfinb [6] 0 true = true := by decide +kernel
theorem fn18 : mjfinb [6] 1 false = true := by decide +kernel
theorem fn19 : mjfinb [6] 2 false = true := by decide +kernel
theorem fn20 : mjfinb [10] 0 true = true := by decide +kernel
theorem fn21 : mjfinb [10] 1 true = true := by decide +kernel
theorem fn22 : mjfinb [10] 2 true = true := by decide +kernel
theorem fn23 : mjfinb [10] 3 true = true := by decide +kernel
theorem fn24 : mjfinb [10] 4 true = true := by decide +kernel
theorem fn25 : mjfinb [10] 5 false = true := by decide +kernel
theorem fn26 : mjfinb [10] 6 false = true := by decide +kernel
theorem fn27 : mjfinb [10] 7 false = true := by decide +kernel
theorem fn28 : mjfinb [10] 8 false = true := by decide +kernel
theorem fn29 : mjfinb [11] 0 true = true := by decide +kernel
theorem fn30 : mjfinb [11] 1 true = true := by decide +kernel
theorem fn31 : mjfinb [11] 2 true = true := by decide +kernel
theorem fn32 : mjfinb [11] 3 false = true := by decide +kernel
theorem fn33 : mjfinb [11] 4 true = true := by decide +kernel
theorem fn34 : mjfinb [11] 5 true = true := by decide +kernel
theorem fn35 : mjfinb [11] 6 true = true := by decide +kernel
theorem fn36 : mjfinb [11] 7 true = true := by decide +kernel
theorem fn37 : mjfinb [11] 8 true = true := by decide +kernel
theorem fn38 : mjfinb [11] 9 true = true := by decide +kernel
theorem fn39 : mjfinb [12] 0 true = true := by decide +kernel
theorem fn40 : mjfinb [12] 1 true = true := by decide +kernel
theorem fn41 : mjfinb [12] 2 true = true := by decide +kernel
theorem fn42 : mjfinb [12] 3 true = true := by decide +kernel
theorem fn43 : mjfinb [12] 4 true = true := by decide +kernel
theorem fn44 : mjfinb [12] 5 true = true := by decide +kernel
theorem fn45 : mjfinb [12] 6 true = true := by decide +kernel
theorem fn46 : mjfinb [12] 7 true = true := by decide +kernel
theorem fn47 : mjfinb [12] 8 true = true := by decide +kernel
theorem fn48 : mjfinb [12] 10 true = true := by decide +kernel
theorem fn49 : mjfinb [12] 11 true = true := by decide +kernel
theorem fn50 : mjfinb [12] 12 true = true := by decide +kernel
theorem fn51 : mjfinb [12] 13 true = true := by decide +kernel
theorem fn52 : mjfinb [12] 14 true = true := by decide +kernel
theorem fn53 : mjfinb [12] 15 true = true := by decide +kernel
theorem fn54 : mjfinb [12] 16 true = true := by decide +kernel
theorem fn55 : mjfinb [12] 17 true = true := by decide +kernel
theorem fn56 : mjfinb [12] 18 true = true := by decide +kernel
theorem fn57 : mjfinb [12] 21 true = true := by decide +kernel
theorem fn58 : mjfinb [12] 25 true = true := by decide +kernel
theorem fn59 : mjfinb [12] 26 true = true := by decide +kernel
theorem fn60 : mjfinb [12] 31 true = true := by decide +kernel
theorem fn61 : mjfinb [12] 32 true = true := by decide +kernel
theorem fn62 : mjfinb [12] 33 true = true := by decide +kernel
theorem fn63 : mjfinb [12] 34 true = true := by decide +kernel
theorem fn64 : mjfinb [12] 35 true = true := by decide +kernel
theorem fn65 : mjfinb [12] 36 true = true := by decide +kernel
theorem fn66 : mjfinb [12] 37 true = true := by decide +kernel
theorem fn67 : mjfinb [12] 38 true = true := by decide +kernel
theorem fn68 : mjfinb [12] 39 true = true := by decide +kernel
theorem fn69 : mjfinb [12] 9 false = true := by decide +kernel
theorem fn70 : mjfinb [12] 19 false = true := by decide +kernel
theorem fn71 : mjfinb [12] 20 false = true := by decide +kernel
theorem fn72 : mjfinb [12] 22 false = true := by decide +kernel
theorem fn73 : mjfinb [12] 23 false = true := by decide +kernel
theorem fn74 : mjfinb [12] 24 false = true := by decide +kernel
theorem fn75 : mjfinb [12] 29 false = true := by decide +kernel
theorem fn76 : mjfinb [12] 30 false = true := by decide +kernel
theorem fn77 : mjfinb [12] 27 false = true := by decide +kernel
theorem fn78 : mjfinb [12] 28 false = true := by decide +kernel
theorem fn79 : mjfinb [12] 40 false = true := by decide +kernel
theorem pdI : parseFieldDescriptor "I" = some .int := by decide +kernel
theorem pdZ : parseFieldDescriptor "Z" = some .boolean := by decide +kernel
theorem pd0 : ∃ ty, parseFieldDescriptor "[I" = some ty ∧ ((∃ n, ty = .object n) ∨ ∃ t, ty = .array t) := ⟨.array .int, by decide +kernel, Or.inr ⟨_, rfl⟩⟩
theorem pd1 : ∃ ty, parseFieldDescriptor "LLookAtClock$Town;" = some ty ∧ ((∃ n, ty = .object n) ∨ ∃ t, ty = .array t) := ⟨.object "LookAtClock$Town", by decide +kernel, Or.inl ⟨_, rfl⟩⟩
theorem pd2 : ∃ ty, parseFieldDescriptor "[LLookAtClock$Looker;" = some ty ∧ ((∃ n, ty = .object n) ∨ ∃ t, ty = .array t) := ⟨.array (.object "LookAtClock$Looker"), by decide +kernel, Or.inr ⟨_, rfl⟩⟩
theorem pd3 : ∃ ty, parseFieldDescriptor "LLookAtClock$Day;" = some ty ∧ ((∃ n, ty = .object n) ∨ ∃ t, ty = .array t) := ⟨.object "LookAtClock$Day", by decide +kernel, Or.inl ⟨_, rfl⟩⟩
theorem pd4 : ∃ ty, parseFieldDescriptor "[LLookAtClock$Row;" = some ty ∧ ((∃ n, ty = .object n) ∨ ∃ t, ty = .array t) := ⟨.array (.object "LookAtClock$Row"), by decide +kernel, Or.inr ⟨_, rfl⟩⟩
theorem np0 : "java/lang/String" = "java/lang/String" ∧ "java/lang/String" ≠ "java/lang/invoke/MethodHandle" ∧ "java/lang/String" ≠ "java/lang/invoke/VarHandle" ∧ (parseMethodDescriptor "()B").map (fun d => d.parameters.length) = some 0 := by decide +kernel
theorem np1 : "jdk/internal/util/Preconditions" ≠ "java/lang/invoke/MethodHandle" ∧ "jdk/internal/util/Preconditions" ≠ "java/lang/invoke/VarHandle" ∧ (parseMethodDescriptor "(IILjava/util/function/BiFunction;)I").map (fun d => d.parameters.length) = some 3 := by decide +kernel
theorem np2 : "java/lang/String" ≠ "java/lang/invoke/MethodHandle" ∧ "java/lang/String" ≠ "java/lang/invoke/VarHandle" ∧ (parseMethodDescriptor "(II)V").map (fun d => d.parameters.length) = some 2 := by decide +kernel
theorem np3 : "java/lang/String" = "java/lang/String" ∧ "java/lang/String" ≠ "java/lang/invoke/MethodHandle" ∧ "java/lang/String" ≠ "java/lang/invoke/VarHandle" ∧ (parseMethodDescriptor "()Z").map (fun d => d.parameters.length) = some 0 := by decide +kernel
theorem np4 : "java/lang/StringLatin1" ≠ "java/lang/invoke/MethodHandle" ∧ "java/lang/StringLatin1" ≠ "java/lang/invoke/VarHandle" ∧ (parseMethodDescriptor "([BI)C").map (fun d => d.parameters.length) = some 2 := by decide +kernel
theorem np5 : "LookAtClock$Looker" ≠ "java/lang/invoke/MethodHandle" ∧ "LookAtClock$Looker" ≠ "java/lang/invoke/VarHandle" ∧ (parseMethodDescriptor "(IIII)V").map (fun d => d.parameters.length) = some 4 := by decide +kernel
theorem np6 : "LookAtClock$Clock" ≠ "java/lang/invoke/MethodHandle" ∧ "LookAtClock$Clock" ≠ "java/lang/invoke/VarHandle" ∧ (parseMethodDescriptor "(IIII)V").map (fun d => d.parameters.length) = some 4 := by decide +kernel
theorem np7 : "ownSkill" ≠ "<init>" ∧ (parseMethodDescriptor "()I").map (fun d => d.parameters.length) = some 0 := by decide +kernel
theorem np8 : "ownSkill" ≠ "<init>" ∧ (parseMethodDescriptor "()I").map (fun d => d.parameters.length) = some 0 := by decide +kernel
theorem np9 : "LookAtClock" ≠ "java/lang/invoke/MethodHandle" ∧ "LookAtClock" ≠ "java/lang/invoke/VarHandle" ∧ (parseMethodDescriptor "(II)I").map (fun d => d.parameters.length) = some 2 := by decide +kernel
theorem np10 : "LookAtClock" ≠ "java/lang/invoke/MethodHandle" ∧ "LookAtClock" ≠ "java/lang/invoke/VarHandle" ∧ (parseMethodDescriptor "(III)I").map (fun d => d.parameters.length) = some 3 := by decide +kernel
theorem np11 : "LookAtClock" ≠ "java/lang/invoke/MethodHandle" ∧ "LookAtClock" ≠ "java/lang/invoke/VarHandle" ∧ (parseMethodDescriptor "(III)I").map (fun d => d.parameters.length) = some 3 := by decide +kernel
theorem np12 : "LookAtClock$Town" = "LookAtClock$Town" ∧ "LookAtClock$Town" ≠ "java/lang/invoke/MethodHandle" ∧ "LookAtClock$Town" ≠ "java/lang/invoke/VarHandle" ∧ (parseMethodDescriptor "(I)I").map (fun d => d.parameters.length) = some 1 := by decide +kernel
theorem np13 : "LookAtClock" ≠ "java/lang/invoke/MethodHandle" ∧ "LookAtClock" ≠ "java/lang/invoke/VarHandle" ∧ (parseMethodDescriptor "(II)I").map (fun d => d.parameters.length) = some 2 := by decide +kernel
theorem np14 : "LookAtClock$Looker" ≠ "java/lang/invoke/MethodHandle" ∧ "LookAtClock$Looker" ≠ "java/lang/invoke/VarHandle" ∧ (parseMethodDescriptor "(I)I").map (fun d => d.parameters.length) = some 1 := by decide +kernel
theorem np15 : "LookAtClock$Looker" = "LookAtClock$Looker" ∧ "LookAtClock$Looker" ≠ "java/lang/invoke/MethodHandle" ∧ "LookAtClock$Looker" ≠ "java/lang/invoke/VarHandle" ∧ (parseMethodDescriptor "(I)I").map (fun d => d.parameters.length) = some 1 := by decide +kernel
theorem np16 : "LookAtClock$Looker" ≠ "java/lang/invoke/MethodHandle" ∧ "LookAtClock$Looker" ≠ "java/lang/invoke/VarHandle" ∧ (parseMethodDescriptor "(I)I").map (fun d => d.parameters.length) = some 1 := by decide +kernel
theorem np17 : "LookAtClock$Looker" = "LookAtClock$Looker" ∧ "LookAtClock$Looker" ≠ "java/lang/invoke/MethodHandle" ∧ "LookAtClock$Looker" ≠ "java/lang/invoke/VarHandle" ∧ (parseMethodDescriptor "(I)I").map (fun d => d.parameters.length) = some 1 := by decide +kernel
theorem np18 : "LookAtClock$Day" = "LookAtClock$Day" ∧ "LookAtClock$Day" ≠ "java/lang/invoke/MethodHandle" ∧ "LookAtClock$Day" ≠ "java/lang/invoke/VarHandle" ∧ (parseMethodDescriptor "(II)I").map (fun d => d.parameters.length) = some 2 := by decide +kernel
theorem np19 : "LookAtClock$Looker" ≠ "java/lang/invoke/MethodHandle" ∧ "LookAtClock$Looker" ≠ "java/lang/invoke/VarHandle" ∧ (parseMethodDescriptor "(LLookAtClock$Day;III)I").map (fun d => d.parameters.length) = some 4 := by decide +kernel
theorem np20 : "LookAtClock$Looker" = "LookAtClock$Looker" ∧ "LookAtClock$Looker" ≠ "java/lang/invoke/MethodHandle" ∧ "LookAtClock$Looker" ≠ "java/lang/invoke/VarHandle" ∧ (parseMethodDescriptor "(LLookAtClock$Day;III)I").map (fun d => d.parameters.length) = some 4 := by decide +kernel
theorem np21 : "LookAtClock$Day" = "LookAtClock$Day" ∧ "LookAtClock$Day" ≠ "java/lang/invoke/MethodHandle" ∧ "LookAtClock$Day" ≠ "java/lang/invoke/VarHandle" ∧ (parseMethodDescriptor "(LLookAtClock$Looker;I)V").map (fun d => d.parameters.length) = some 2 := by decide +kernel
theorem np22 : "LookAtClock$Town" = "LookAtClock$Town" ∧ "LookAtClock$Town" ≠ "java/lang/invoke/MethodHandle" ∧ "LookAtClock$Town" ≠ "java/lang/invoke/VarHandle" ∧ (parseMethodDescriptor "(I)Z").map (fun d => d.parameters.length) = some 1 := by decide +kernel
theorem np23 : "LookAtClock$Day" = "LookAtClock$Day" ∧ "LookAtClock$Day" ≠ "java/lang/invoke/MethodHandle" ∧ "LookAtClock$Day" ≠ "java/lang/invoke/VarHandle" ∧ (parseMethodDescriptor "(LLookAtClock$Looker;I)I").map (fun d => d.parameters.length) = some 2 := by decide +kernel
theorem np24 : "LookAtClock$Day" = "LookAtClock$Day" ∧ "LookAtClock$Day" ≠ "java/lang/invoke/MethodHandle" ∧ "LookAtClock$Day" ≠ "java/lang/invoke/VarHandle" ∧ (parseMethodDescriptor "(II)V").map (fun d => d.parameters.length) = some 2 := by decide +kernel
theorem np25 : "LookAtClock$Looker" ≠ "java/lang/invoke/MethodHandle" ∧ "LookAtClock$Looker" ≠ "java/lang/invoke/VarHandle" ∧ (parseMethodDescriptor "()Z").map (fun d => d.parameters.length) = some 0 := by decide +kernel
theorem np26 : "LookAtClock$Looker" = "LookAtClock$Looker" ∧ "LookAtClock$Looker" ≠ "java/lang/invoke/MethodHandle" ∧ "LookAtClock$Looker" ≠ "java/lang/invoke/VarHandle" ∧ (parseMethodDescriptor "()Z").map (fun d => d.parameters.length) = some 0 := by decide +kernel
theorem np27 : "LookAtClock$Day" = "LookAtClock$Day" ∧ "LookAtClock$Day" ≠ "java/lang/invoke/MethodHandle" ∧ "LookAtClock$Day" ≠ "java/lang/invoke/VarHandle" ∧ (parseMethodDescriptor "(LLookAtClock$Town;LLookAtClock$Looker;III)V").map (fun d => d.parameters.length) = some 5 := by decide +kernel
theorem np28 : "java/util/Arrays" ≠ "java/lang/invoke/MethodHandle" ∧ "java/util/Arrays" ≠ "java/lang/invoke/VarHandle" ∧ (parseMethodDescriptor "([II)V").map (fun d => d.parameters.length) = some 2 := by decide +kernel
theorem np29 : "LookAtClock$Row" = "LookAtClock$Row" ∧ "LookAtClock$Row" ≠ "java/lang/invoke/MethodHandle" ∧ "LookAtClock$Row" ≠ "java/lang/invoke/VarHandle" ∧ (parseMethodDescriptor "(I)Z").map (fun d => d.parameters.length) = some 1 := by decide +kernel
theorem np30 : "LookAtClock$Cheap" ≠ "java/lang/invoke/MethodHandle" ∧ "LookAtClock$Cheap" ≠ "java/lang/invoke/VarHandle" ∧ (parseMethodDescriptor "(IIII)V").map (fun d => d.parameters.length) = some 4 := by decide +kernel
theorem np31 : "ownSkill" ≠ "<init>" ∧ (parseMethodDescriptor "()I").map (fun d => d.parameters.length) = some 0 := by decide +kernel
theorem np32 : "LookAtClock" ≠ "java/lang/invoke/MethodHandle" ∧ "LookAtClock" ≠ "java/lang/invoke/VarHandle" ∧ (parseMethodDescriptor "(I)Z").map (fun d => d.parameters.length) = some 1 := by decide +kernel
theorem np33 : "LookAtClock$Never" ≠ "java/lang/invoke/MethodHandle" ∧ "LookAtClock$Never" ≠ "java/lang/invoke/VarHandle" ∧ (parseMethodDescriptor "(IIII)V").map (fun d => d.parameters.length) = some 4 := by decide +kernel
theorem np34 : "LookAtClock$Best" ≠ "java/lang/invoke/MethodHandle" ∧ "LookAtClock$Best" ≠ "java/lang/invoke/VarHandle" ∧ (parseMethodDescriptor "(IIII)V").map (fun d => d.parameters.length) = some 4 := by decide +kernel
theorem np35 : "LookAtClock$Share" ≠ "java/lang/invoke/MethodHandle" ∧ "LookAtClock$Share" ≠ "java/lang/invoke/VarHandle" ∧ (parseMethodDescriptor "(IIII)V").map (fun d => d.parameters.length) = some 4 := by decide +kernel
theorem np36 : "LookAtClock$Told" ≠ "java/lang/invoke/MethodHandle" ∧ "LookAtClock$Told" ≠ "java/lang/invoke/VarHandle" ∧ (parseMethodDescriptor "(IIII)V").map (fun d => d.parameters.length) = some 4 := by decide +kernel
theorem np37 : "LookAtClock$Seller" ≠ "java/lang/invoke/MethodHandle" ∧ "LookAtClock$Seller" ≠ "java/lang/invoke/VarHandle" ∧ (parseMethodDescriptor "(IIII)V").map (fun d => d.parameters.length) = some 4 := by decide +kernel
theorem np38 : "LookAtClock" ≠ "java/lang/invoke/MethodHandle" ∧ "LookAtClock" ≠ "java/lang/invoke/VarHandle" ∧ (parseMethodDescriptor "(IIIII)LLookAtClock$Looker;").map (fun d => d.parameters.length) = some 5 := by decide +kernel
theorem np39 : "LookAtClock$Town" = "LookAtClock$Town" ∧ "LookAtClock$Town" ≠ "java/lang/invoke/MethodHandle" ∧ "LookAtClock$Town" ≠ "java/lang/invoke/VarHandle" ∧ (parseMethodDescriptor "(III)Z").map (fun d => d.parameters.length) = some 3 := by decide +kernel
theorem np40 : "LookAtClock$Town" = "LookAtClock$Town" ∧ "LookAtClock$Town" ≠ "java/lang/invoke/MethodHandle" ∧ "LookAtClock$Town" ≠ "java/lang/invoke/VarHandle" ∧ (parseMethodDescriptor "(IIII)Z").map (fun d => d.parameters.length) = some 4 := by decide +kernel
theorem np41 : "LookAtClock$Town" = "LookAtClock$Town" ∧ "LookAtClock$Town" ≠ "java/lang/invoke/MethodHandle" ∧ "LookAtClock$Town" ≠ "java/lang/invoke/VarHandle" ∧ (parseMethodDescriptor "(I)Z").map (fun d => d.parameters.length) = some 1 := by decide +kernel
theorem np42 : "LookAtClock$Town" = "LookAtClock$Town" ∧ "LookAtClock$Town" ≠ "java/lang/invoke/MethodHandle" ∧ "LookAtClock$Town" ≠ "java/lang/invoke/VarHandle" ∧ (parseMethodDescriptor "(I)Z").map (fun d => d.parameters.length) = some 1 := by decide +kernel
theorem np43 : "LookAtClock$Town" ≠ "java/lang/invoke/MethodHandle" ∧ "LookAtClock$Town" ≠ "java/lang/invoke/VarHandle" ∧ (parseMethodDescriptor "()V").map (fun d => d.parameters.length) = some 0 := by decide +kernel
theorem np44 : "LookAtClock$Day" ≠ "java/lang/invoke/MethodHandle" ∧ "LookAtClock$Day" ≠ "java/lang/invoke/VarHandle" ∧ (parseMethodDescriptor "()V").map (fun d => d.parameters.length) = some 0 := by decide +kernel
theorem np45 : "LookAtClock$Row" ≠ "java/lang/invoke/MethodHandle" ∧ "LookAtClock$Row" ≠ "java/lang/invoke/VarHandle" ∧ (parseMethodDescriptor "()V").map (fun d => d.parameters.length) = some 0 := by decide +kernel
theorem np46 : "LookAtClock" ≠ "java/lang/invoke/MethodHandle" ∧ "LookAtClock" ≠ "java/lang/invoke/VarHandle" ∧ (parseMethodDescriptor "(I)Z").map (fun d => d.parameters.length) = some 1 := by decide +kernel
theorem np47 : "LookAtClock" = "LookAtClock" ∧ "LookAtClock" ≠ "java/lang/invoke/MethodHandle" ∧ "LookAtClock" ≠ "java/lang/invoke/VarHandle" ∧ (parseMethodDescriptor "(I)Z").map (fun d => d.parameters.length) = some 1 := by decide +kernel
theorem np48 : "LookAtClock$Row" = "LookAtClock$Row" ∧ "LookAtClock$Row" ≠ "java/lang/invoke/MethodHandle" ∧ "LookAtClock$Row" ≠ "java/lang/invoke/VarHandle" ∧ (parseMethodDescriptor "(I)I").map (fun d => d.parameters.length) = some 1 := by decide +kernel
theorem np49 : "LookAtClock" ≠ "java/lang/invoke/MethodHandle" ∧ "LookAtClock" ≠ "java/lang/invoke/VarHandle" ∧ (parseMethodDescriptor "(I)Z").map (fun d => d.parameters.length) = some 1 := by decide +kernel
theorem np50 : "LookAtClock" ≠ "java/lang/invoke/MethodHandle" ∧ "LookAtClock" ≠ "java/lang/invoke/VarHandle" ∧ (parseMethodDescriptor "(LLookAtClock$Row;II)I").map (fun d => d.parameters.length) = some 3 := by decide +kernel
theorem np51 : "LookAtClock" ≠ "java/lang/invoke/MethodHandle" ∧ "LookAtClock" ≠ "java/lang/invoke/VarHandle" ∧ (parseMethodDescriptor "(LLookAtClock$Row;I)I").map (fun d => d.parameters.length) = some 2 := by decide +kernel
theorem np52 : "LookAtClock" ≠ "java/lang/invoke/MethodHandle" ∧ "LookAtClock" ≠ "java/lang/invoke/VarHandle" ∧ (parseMethodDescriptor "(I)Ljava/lang/String;").map (fun d => d.parameters.length) = some 1 := by decide +kernel
theorem np53 : "java/lang/String" = "java/lang/String" ∧ "java/lang/String" ≠ "java/lang/invoke/MethodHandle" ∧ "java/lang/String" ≠ "java/lang/invoke/VarHandle" ∧ (parseMethodDescriptor "()Z").map (fun d => d.parameters.length) = some 0 := by decide +kernel
theorem np54 : "java/lang/String" = "java/lang/String" ∧ "java/lang/String" ≠ "java/lang/invoke/MethodHandle" ∧ "java/lang/String" ≠ "java/lang/invoke/VarHandle" ∧ (parseMethodDescriptor "()I").map (fun d => d.parameters.length) = some 0 := by decide +kernel
theorem np55 : "java/lang/String" = "java/lang/String" ∧ "java/lang/String" ≠ "java/lang/invoke/MethodHandle" ∧ "java/lang/String" ≠ "java/lang/invoke/VarHandle" ∧ (parseMethodDescriptor "(I)C").map (fun d => d.parameters.length) = some 1 := by decide +kernel
theorem np56 : "LookAtClock" ≠ "java/lang/invoke/MethodHandle" ∧ "LookAtClock" ≠ "java/lang/invoke/VarHandle" ∧ (parseMethodDescriptor "(LLookAtClock$Row;IC)I").map (fun d => d.parameters.length) = some 3 := by decide +kernel
theorem np57 : "LookAtClock" ≠ "java/lang/invoke/MethodHandle" ∧ "LookAtClock" ≠ "java/lang/invoke/VarHandle" ∧ (parseMethodDescriptor "(LLookAtClock$Row;II)I").map (fun d => d.parameters.length) = some 3 := by decide +kernel
theorem np58 : "LookAtClock" = "LookAtClock" ∧ "LookAtClock" ≠ "java/lang/invoke/MethodHandle" ∧ "LookAtClock" ≠ "java/lang/invoke/VarHandle" ∧ (parseMethodDescriptor "(LLookAtClock$Row;I)I").map (fun d => d.parameters.length) = some 2 := by decide +kernel
theorem np59 : "LookAtClock" = "LookAtClock" ∧ "LookAtClock" ≠ "java/lang/invoke/MethodHandle" ∧ "LookAtClock" ≠ "java/lang/invoke/VarHandle" ∧ (parseMethodDescriptor "(II)I").map (fun d => d.parameters.length) = some 2 := by decide +kernel
theorem np60 : "LookAtClock" = "LookAtClock" ∧ "LookAtClock" ≠ "java/lang/invoke/MethodHandle" ∧ "LookAtClock" ≠ "java/lang/invoke/VarHandle" ∧ (parseMethodDescriptor "(LLookAtClock$Row;)I").map (fun d => d.parameters.length) = some 1 := by decide +kernel
theorem np61 : "LookAtClock$Town" = "LookAtClock$Town" ∧ "LookAtClock$Town" ≠ "java/lang/invoke/MethodHandle" ∧ "LookAtClock$Town" ≠ "java/lang/invoke/VarHandle" ∧ (parseMethodDescriptor "(LLookAtClock$Town;)V").map (fun d => d.parameters.length) = some 1 := by decide +kernel
theorem np62 : "LookAtClock$Town" = "LookAtClock$Town" ∧ "LookAtClock$Town" ≠ "java/lang/invoke/MethodHandle" ∧ "LookAtClock$Town" ≠ "java/lang/invoke/VarHandle" ∧ (parseMethodDescriptor "(I[I)Z").map (fun d => d.parameters.length) = some 2 := by decide +kernel
theorem np63 : "LookAtClock" = "LookAtClock" ∧ "LookAtClock" ≠ "java/lang/invoke/MethodHandle" ∧ "LookAtClock" ≠ "java/lang/invoke/VarHandle" ∧ (parseMethodDescriptor "(I)LLookAtClock$Looker;").map (fun d => d.parameters.length) = some 1 := by decide +kernel
theorem np64 : "LookAtClock$Looker" ≠ "java/lang/invoke/MethodHandle" ∧ "LookAtClock$Looker" ≠ "java/lang/invoke/VarHandle" ∧ (parseMethodDescriptor "()I").map (fun d => d.parameters.length) = some 0 := by decide +kernel
theorem np65 : "LookAtClock$Looker" = "LookAtClock$Looker" ∧ "LookAtClock$Looker" ≠ "java/lang/invoke/MethodHandle" ∧ "LookAtClock$Looker" ≠ "java/lang/invoke/VarHandle" ∧ (parseMethodDescriptor "()I").map (fun d => d.parameters.length) = some 0 := by decide +kernel
theorem np66 : "LookAtClock$Day" = "LookAtClock$Day" ∧ "LookAtClock$Day" ≠ "java/lang/invoke/MethodHandle" ∧ "LookAtClock$Day" ≠ "java/lang/invoke/VarHandle" ∧ (parseMethodDescriptor "(LLookAtClock$Town;LLookAtClock$Looker;II)V").map (fun d => d.parameters.length) = some 4 := by decide +kernel
theorem np67 : "LookAtClock$Day" = "LookAtClock$Day" ∧ "LookAtClock$Day" ≠ "java/lang/invoke/MethodHandle" ∧ "LookAtClock$Day" ≠ "java/lang/invoke/VarHandle" ∧ (parseMethodDescriptor "(I)I").map (fun d => d.parameters.length) = some 1 := by decide +kernel
theorem np68 : "LookAtClock" ≠ "java/lang/invoke/MethodHandle" ∧ "LookAtClock" ≠ "java/lang/invoke/VarHandle" ∧ (parseMethodDescriptor "(LLookAtClock$Row;)Z").map (fun d => d.parameters.length) = some 1 := by decide +kernel
theorem np69 : "LookAtClock" ≠ "java/lang/invoke/MethodHandle" ∧ "LookAtClock" ≠ "java/lang/invoke/VarHandle" ∧ (parseMethodDescriptor "(LLookAtClock$Row;I)Z").map (fun d => d.parameters.length) = some 2 := by decide +kernel
theorem np70 : "LookAtClock" ≠ "java/lang/invoke/MethodHandle" ∧ "LookAtClock" ≠ "java/lang/invoke/VarHandle" ∧ (parseMethodDescriptor "(III)Z").map (fun d => d.parameters.length) = some 3 := by decide +kernel
theorem np71 : "LookAtClock" ≠ "java/lang/invoke/MethodHandle" ∧ "LookAtClock" ≠ "java/lang/invoke/VarHandle" ∧ (parseMethodDescriptor "(II)I").map (fun d => d.parameters.length) = some 2 := by decide +kernel
theorem np72 : "LookAtClock" = "LookAtClock" ∧ "LookAtClock" ≠ "java/lang/invoke/MethodHandle" ∧ "LookAtClock" ≠ "java/lang/invoke/VarHandle" ∧ (parseMethodDescriptor "()V").map (fun d => d.parameters.length) = some 0 := by decide +kernel
theorem np73 : "LookAtClock" = "LookAtClock" ∧ "LookAtClock" ≠ "java/lang/invoke/MethodHandle" ∧ "LookAtClock" ≠ "java/lang/invoke/VarHandle" ∧ (parseMethodDescriptor "(I)I").map (fun d => d.parameters.length) = some 1 := by decide +kernel
theorem np74 : "LookAtClock$Row" = "LookAtClock$Row" ∧ "LookAtClock$Row" ≠ "java/lang/invoke/MethodHandle" ∧ "LookAtClock$Row" ≠ "java/lang/invoke/VarHandle" ∧ (parseMethodDescriptor "()I").map (fun d => d.parameters.length) = some 0 := by decide +kernel
theorem np75 : "LookAtClock$Town" = "LookAtClock$Town" ∧ "LookAtClock$Town" ≠ "java/lang/invoke/MethodHandle" ∧ "LookAtClock$Town" ≠ "java/lang/invoke/VarHandle" ∧ (parseMethodDescriptor "()I").map (fun d => d.parameters.length) = some 0 := by decide +kernel
theorem np76 : "LookAtClock$Row" = "LookAtClock$Row" ∧ "LookAtClock$Row" ≠ "java/lang/invoke/MethodHandle" ∧ "LookAtClock$Row" ≠ "java/lang/invoke/VarHandle" ∧ (parseMethodDescriptor "(II)V").map (fun d => d.parameters.length) = some 2 := by decide +kernel
theorem np77 : "LookAtClock$Row" = "LookAtClock$Row" ∧ "LookAtClock$Row" ≠ "java/lang/invoke/MethodHandle" ∧ "LookAtClock$Row" ≠ "java/lang/invoke/VarHandle" ∧ (parseMethodDescriptor "(II)V").map (fun d => d.parameters.length) = some 2 := by decide +kernel
theorem np78 : "LookAtClock$Row" = "LookAtClock$Row" ∧ "LookAtClock$Row" ≠ "java/lang/invoke/MethodHandle" ∧ "LookAtClock$Row" ≠ "java/lang/invoke/VarHandle" ∧ (parseMethodDescriptor "(II)Z").map (fun d => d.parameters.length) = some 2 := by decide +kernel
theorem np79 : "LookAtClock" = "LookAtClock" ∧ "LookAtClock" ≠ "java/lang/invoke/MethodHandle" ∧ "LookAtClock" ≠ "java/lang/invoke/VarHandle" ∧ (parseMethodDescriptor "(I)I").map (fun d => d.parameters.length) = some 1 := by decide +kernel
theorem np80 : "LookAtClock$Looker" ≠ "java/lang/invoke/MethodHandle" ∧ "LookAtClock$Looker" ≠ "java/lang/invoke/VarHandle" ∧ (parseMethodDescriptor "()I").map (fun d => d.parameters.length) = some 0 := by decide +kernel
theorem np81 : "LookAtClock$Looker" = "LookAtClock$Looker" ∧ "LookAtClock$Looker" ≠ "java/lang/invoke/MethodHandle" ∧ "LookAtClock$Looker" ≠ "java/lang/invoke/VarHandle" ∧ (parseMethodDescriptor "()I").map (fun d => d.parameters.length) = some 0 := by decide +kernel
theorem np82 : "LookAtClockModel" ≠ "java/lang/invoke/MethodHandle" ∧ "LookAtClockModel" ≠ "java/lang/invoke/VarHandle" ∧ (parseMethodDescriptor "(III)Z").map (fun d => d.parameters.length) = some 3 := by decide +kernel
theorem np83 : "LookAtClockModel" ≠ "java/lang/invoke/MethodHandle" ∧ "LookAtClockModel" ≠ "java/lang/invoke/VarHandle" ∧ (parseMethodDescriptor "([I[I)V").map (fun d => d.parameters.length) = some 2 := by decide +kernel
theorem np84 : "LookAtClockModel" ≠ "java/lang/invoke/MethodHandle" ∧ "LookAtClockModel" ≠ "java/lang/invoke/VarHandle" ∧ (parseMethodDescriptor "(I)Z").map (fun d => d.parameters.length) = some 1 := by decide +kernel
theorem np85 : "LookAtClockModel" ≠ "java/lang/invoke/MethodHandle" ∧ "LookAtClockModel" ≠ "java/lang/invoke/VarHandle" ∧ (parseMethodDescriptor "(II)I").map (fun d => d.parameters.length) = some 2 := by decide +kernel
theorem np86 : "LookAtClockModel" = "LookAtClockModel" ∧ "LookAtClockModel" ≠ "java/lang/invoke/MethodHandle" ∧ "LookAtClockModel" ≠ "java/lang/invoke/VarHandle" ∧ (parseMethodDescriptor "(I)Z").map (fun d => d.parameters.length) = some 1 := by decide +kernel
theorem np87 : "LookAtClockModel" = "LookAtClockModel" ∧ "LookAtClockModel" ≠ "java/lang/invoke/MethodHandle" ∧ "LookAtClockModel" ≠ "java/lang/invoke/VarHandle" ∧ (parseMethodDescriptor "(I)Z").map (fun d => d.parameters.length) = some 1 := by decide +kernel
theorem np88 : "LookAtClockModel" ≠ "java/lang/invoke/MethodHandle" ∧ "LookAtClockModel" ≠ "java/lang/invoke/VarHandle" ∧ (parseMethodDescriptor "(II)I").map (fun d => d.parameters.length) = some 2 := by decide +kernel
theorem np89 : "LookAtClockModel" ≠ "java/lang/invoke/MethodHandle" ∧ "LookAtClockModel" ≠ "java/lang/invoke/VarHandle" ∧ (parseMethodDescriptor "(III)I").map (fun d => d.parameters.length) = some 3 := by decide +kernel
theorem np90 : "LookAtClockModel" = "LookAtClockModel" ∧ "LookAtClockModel" ≠ "java/lang/invoke/MethodHandle" ∧ "LookAtClockModel" ≠ "java/lang/invoke/VarHandle" ∧ (parseMethodDescriptor "(III)I").map (fun d => d.parameters.length) = some 3 := by decide +kernel
theorem np91 : "LookAtClockModel" = "LookAtClockModel" ∧ "LookAtClockModel" ≠ "java/lang/invoke/MethodHandle" ∧ "LookAtClockModel" ≠ "java/lang/invoke/VarHandle" ∧ (parseMethodDescriptor "(I)Z").map (fun d => d.parameters.length) = some 1 := by decide +kernel
theorem np92 : "LookAtClockModel" ≠ "java/lang/invoke/MethodHandle" ∧ "LookAtClockModel" ≠ "java/lang/invoke/VarHandle" ∧ (parseMethodDescriptor "(I)Z").map (fun d => d.parameters.length) = some 1 := by decide +kernel
theorem np93 : "LookAtClockModel" ≠ "java/lang/invoke/MethodHandle" ∧ "LookAtClockModel" ≠ "java/lang/invoke/VarHandle" ∧ (parseMethodDescriptor "(II)I").map (fun d => d.parameters.length) = some 2 := by decide +kernel
theorem np94 : "LookAtClockModel" = "LookAtClockModel" ∧ "LookAtClockModel" ≠ "java/lang/invoke/MethodHandle" ∧ "LookAtClockModel" ≠ "java/lang/invoke/VarHandle" ∧ (parseMethodDescriptor "(IIIII)I").map (fun d => d.parameters.length) = some 5 := by decide +kernel
theorem np95 : "LookAtClockModel" = "LookAtClockModel" ∧ "LookAtClockModel" ≠ "java/lang/invoke/MethodHandle" ∧ "LookAtClockModel" ≠ "java/lang/invoke/VarHandle" ∧ (parseMethodDescriptor "(I)I").map (fun d => d.parameters.length) = some 1 := by decide +kernel
theorem np96 : "LookAtClockModel" ≠ "java/lang/invoke/MethodHandle" ∧ "LookAtClockModel" ≠ "java/lang/invoke/VarHandle" ∧ (parseMethodDescriptor "(II)I").map (fun d => d.parameters.length) = some 2 := by decide +kernel
theorem np97 : "LookAtClockModel" = "LookAtClockModel" ∧ "LookAtClockModel" ≠ "java/lang/invoke/MethodHandle" ∧ "LookAtClockModel" ≠ "java/lang/invoke/VarHandle" ∧ (parseMethodDescriptor "(IIII)Z").map (fun d => d.parameters.length) = some 4 := by decide +kernel
theorem np98 : "LookAtClockModel" = "LookAtClockModel" ∧ "LookAtClockModel" ≠ "java/lang/invoke/MethodHandle" ∧ "LookAtClockModel" ≠ "java/lang/invoke/VarHandle" ∧ (parseMethodDescriptor "(I)I").map (fun d => d.parameters.length) = some 1 := by decide +kernel
theorem np99 : "LookAtClockModel" = "LookAtClockModel" ∧ "LookAtClockModel" ≠ "java/lang/invoke/MethodHandle" ∧ "LookAtClockModel" ≠ "java/lang/invoke/VarHandle" ∧ (parseMethodDescriptor "(I)Z").map (fun d => d.parameters.length) = some 1 := by decide +kernel
theorem np100 : "LookAtClockModel" = "LookAtClockModel" ∧ "LookAtClockModel" ≠ "java/lang/invoke/MethodHandle" ∧ "LookAtClockModel" ≠ "java/lang/invoke/VarHandle" ∧ (parseMethodDescriptor "()Z").map (fun d => d.parameters.length) = some 0 := by decide +kernel
theorem np101 : "LookAtClockModel" = "LookAtClockModel" ∧ "LookAtClockModel" ≠ "java/lang/invoke/MethodHandle" ∧ "LookAtClockModel" ≠ "java/lang/invoke/VarHandle" ∧ (parseMethodDescriptor "(I)I").map (fun d => d.parameters.length) = some 1 := by decide +kernel
theorem np102 : "LookAtClockModel" = "LookAtClockModel" ∧ "LookAtClockModel" ≠ "java/lang/invoke/MethodHandle" ∧ "LookAtClockModel" ≠ "java/lang/invoke/VarHandle" ∧ (parseMethodDescriptor "(I)V").map (fun d => d.parameters.length) = some 1 := by decide +kernel
theorem np103 : "LookAtClockModel" = "LookAtClockModel" ∧ "LookAtClockModel" ≠ "java/lang/invoke/MethodHandle" ∧ "LookAtClockModel" ≠ "java/lang/invoke/VarHandle" ∧ (parseMethodDescriptor "()I").map (fun d => d.parameters.length) = some 0 := by decide +kernel
theorem np104 : "LookAtClockModel" = "LookAtClockModel" ∧ "LookAtClockModel" ≠ "java/lang/invoke/MethodHandle" ∧ "LookAtClockModel" ≠ "java/lang/invoke/VarHandle" ∧ (parseMethodDescriptor "(IIIIII)Z").map (fun d => d.parameters.length) = some 6 := by decide +kernel
theorem np105 : "LookAtClockModel" = "LookAtClockModel" ∧ "LookAtClockModel" ≠ "java/lang/invoke/MethodHandle" ∧ "LookAtClockModel" ≠ "java/lang/invoke/VarHandle" ∧ (parseMethodDescriptor "(I)V").map (fun d => d.parameters.length) = some 1 := by decide +kernel
theorem np106 : "LookAtClockModel" = "LookAtClockModel" ∧ "LookAtClockModel" ≠ "java/lang/invoke/MethodHandle" ∧ "LookAtClockModel" ≠ "java/lang/invoke/VarHandle" ∧ (parseMethodDescriptor "()I").map (fun d => d.parameters.length) = some 0 := by decide +kernel
theorem np107 : "LookAtClockModel" = "LookAtClockModel" ∧ "LookAtClockModel" ≠ "java/lang/invoke/MethodHandle" ∧ "LookAtClockModel" ≠ "java/lang/invoke/VarHandle" ∧ (parseMethodDescriptor "(I)I").map (fun d => d.parameters.length) = some 1 := by decide +kernel
theorem tb0 : mjtb mjG mjM 2 1 yJ0_coder_7d493 cJ0_coder_7d493 1 (some .byte) := ⟨rfl, mg111, by decide, by decide⟩
theorem tb1 : mjtb mjG mjM 5 3 yJ3_checkIndex_8e157 cJ3_checkIndex_8e157 3 (some .int) := ⟨rfl, mg118, by decide, by decide⟩
theorem tb2 : mjtb mjG mjM 6 2 yJ0_checkIndex_df160 cJ0_checkIndex_df160 2 none := ⟨rfl, mg122, by decide, by decide⟩
theorem tb3 : mjtb mjG mjM 4 1 yJ0_isLatin1_aae02 cJ0_isLatin1_aae02 1 (some .boolean) := ⟨rfl, mg124, by decide, by decide⟩
theorem tb4 : mjtb mjG mjM 7 2 yJ1_charAt_3b067 cJ1_charAt_3b067 2 (some .char) := ⟨rfl, mg129, by decide, by decide⟩
theorem tb5 : mjtb mjG mjM 9 5 yX4_init cX4_init 5 none := ⟨rfl, mg140, by decide, by decide⟩
theorem tb6 : mjtb mjG mjM 10 5 yX2_init cX2_init 5 none := ⟨rfl, mg144, by decide, by decide⟩
theorem tb7 : mjtb mjG mjM 14 1 yX4_ownSkill cX4_ownSkill 1 (some .int) := ⟨rfl, mg147, by decide, by decide⟩
theorem tb8 : mjtb mjG mjM 15 1 yX2_ownSkill cX2_ownSkill 1 (some .int) := ⟨rfl, mg152, by decide, by decide⟩
theorem tb9 : mjtb mjG mjM 19 2 yX11_priceAt cX11_priceAt 3 (some .int) := ⟨rfl, mg159, by decide, by decide⟩
theorem tb10 : mjtb mjG mjM 20 3 yX11_cheapMinute cX11_cheapMinute 4 (some .int) := ⟨rfl, mg164, by decide, by decide⟩
theorem tb11 : mjtb mjG mjM 30 3 yX11_reckoned cX11_reckoned 3 (some .int) := ⟨rfl, mg176, by decide, by decide⟩
theorem tb12 : mjtb mjG mjM 33 2 yX10_nextPlanned cX10_nextPlanned 3 (some .int) := ⟨rfl, mg181, by decide, by decide⟩
theorem tb13 : mjtb mjG mjM 37 2 yX11_part cX11_part 2 (some .int) := ⟨rfl, mg190, by decide, by decide⟩
theorem tb14 : mjtb mjG mjM 35 2 yX4_fee cX4_fee 2 (some .int) := ⟨rfl, mg193, by decide, by decide⟩
theorem tb15 : mjtb mjG mjM 36 2 yX7_fee cX7_fee 2 (some .int) := ⟨rfl, mg202, by decide, by decide⟩
theorem tb16 : mjtb mjG mjM 38 2 yX8_fee cX8_fee 2 (some .int) := ⟨rfl, mg206, by decide, by decide⟩
theorem tb17 : mjtb mjG mjM 27 2 yX4_early cX4_early 2 (some .int) := ⟨rfl, mg216, by decide, by decide⟩
theorem tb18 : mjtb mjG mjM 28 2 yX5_early cX5_early 2 (some .int) := ⟨rfl, mg224, by decide, by decide⟩
theorem tb19 : mjtb mjG mjM 29 2 yX9_early cX9_early 2 (some .int) := ⟨rfl, mg230, by decide, by decide⟩
theorem tb20 : mjtb mjG mjM 31 3 yX3_firstThinking cX3_firstThinking 7 (some .int) := ⟨rfl, mg234, by decide, by decide⟩
theorem tb21 : mjtb mjG mjM 24 5 yX2_nextLook cX2_nextLook 5 (some .int) := ⟨rfl, mg243, by decide, by decide⟩
theorem tb22 : mjtb mjG mjM 21 5 yX1_nextLook cX1_nextLook 5 (some .int) := ⟨rfl, mg249, by decide, by decide⟩
theorem tb23 : mjtb mjG mjM 32 5 yX4_nextLook cX4_nextLook 5 (some .int) := ⟨rfl, mg242, by decide, by decide⟩
theorem tb24 : mjtb mjG mjM 34 5 yX9_nextLook cX9_nextLook 5 (some .int) := ⟨rfl, mg258, by decide, by decide⟩
theorem tb25 : mjtb mjG mjM 39 3 yX3_lookAt cX3_lookAt 4 none := ⟨rfl, mg261, by decide, by decide⟩
theorem tb26 : mjtb mjG mjM 41 2 yX10_hasWork cX10_hasWork 2 (some .boolean) := ⟨rfl, mg267, by decide, by decide⟩
theorem tb27 : mjtb mjG mjM 40 3 yX3_goingMinute cX3_goingMinute 9 (some .int) := ⟨rfl, mg279, by decide, by decide⟩
theorem tb28 : mjtb mjG mjM 42 3 yX3_comeTo cX3_comeTo 5 none := ⟨rfl, mg283, by decide, by decide⟩
theorem tb29 : mjtb mjG mjM 13 1 yX0_choosesFigure cX0_choosesFigure 1 (some .boolean) := ⟨rfl, mg289, by decide, by decide⟩
theorem tb30 : mjtb mjG mjM 26 1 yX4_choosesFigure cX4_choosesFigure 1 (some .boolean) := ⟨rfl, mg288, by decide, by decide⟩
theorem tb31 : mjtb mjG mjM 43 6 yX3_liveBy cX3_liveBy 7 none := ⟨rfl, mg303, by decide, by decide⟩
theorem tb32 : mjtb mjG mjM 0 2 yJ7_fill_53178 cJ7_fill_53178 4 none := ⟨rfl, mg317, by decide, by decide⟩
theorem tb33 : mjtb mjG mjM 52 2 yX6_hasPlace cX6_hasPlace 2 (some .boolean) := ⟨rfl, mg320, by decide, by decide⟩
theorem tb34 : mjtb mjG mjM 17 5 yX1_init cX1_init 5 none := ⟨rfl, mg327, by decide, by decide⟩
theorem tb35 : mjtb mjG mjM 22 1 yX1_ownSkill cX1_ownSkill 1 (some .int) := ⟨rfl, mg329, by decide, by decide⟩
theorem tb36 : mjtb mjG mjM 69 1 yX11_isMinute cX11_isMinute 1 (some .boolean) := ⟨rfl, mg352, by decide, by decide⟩
theorem tb37 : mjtb mjG mjM 47 5 yX5_init cX5_init 5 none := ⟨rfl, mg357, by decide, by decide⟩
theorem tb38 : mjtb mjG mjM 11 5 yX0_init cX0_init 5 none := ⟨rfl, mg368, by decide, by decide⟩
theorem tb39 : mjtb mjG mjM 60 5 yX8_init cX8_init 5 none := ⟨rfl, mg373, by decide, by decide⟩
theorem tb40 : mjtb mjG mjM 63 5 yX9_init cX9_init 5 none := ⟨rfl, mg378, by decide, by decide⟩
theorem tb41 : mjtb mjG mjM 57 5 yX7_init cX7_init 5 none := ⟨rfl, mg383, by decide, by decide⟩
theorem tb42 : mjtb mjG mjM 71 5 yX11_newLooker cX11_newLooker 5 (some (.object "LookAtClock$Looker")) := ⟨rfl, mg388, by decide, by decide⟩
theorem tb43 : mjtb mjG mjM 70 4 yX10_takesWork cX10_takesWork 4 (some .boolean) := ⟨rfl, mg390, by decide, by decide⟩
theorem tb44 : mjtb mjG mjM 72 5 yX10_takesLooker cX10_takesLooker 5 (some .boolean) := ⟨rfl, mg394, by decide, by decide⟩
theorem tb45 : mjtb mjG mjM 73 2 yX10_takesLaw cX10_takesLaw 2 (some .boolean) := ⟨rfl, mg398, by decide, by decide⟩
theorem tb46 : mjtb mjG mjM 74 2 yX10_takesPlanned cX10_takesPlanned 2 (some .boolean) := ⟨rfl, mg402, by decide, by decide⟩
theorem tb47 : mjtb mjG mjM 66 1 yX10_init cX10_init 1 none := ⟨rfl, mg409, by decide, by decide⟩
theorem tb48 : mjtb mjG mjM 25 1 yX3_init cX3_init 1 none := ⟨rfl, mg417, by decide, by decide⟩
theorem tb49 : mjtb mjG mjM 50 1 yX6_init cX6_init 1 none := ⟨rfl, mg427, by decide, by decide⟩
theorem tb50 : mjtb mjG mjM 77 1 yX11_isShelf cX11_isShelf 1 (some .boolean) := ⟨rfl, mg430, by decide, by decide⟩
theorem tb51 : mjtb mjG mjM 197 2 yX11_holdsRow cX11_holdsRow 2 (some .boolean) := ⟨rfl, mg432, by decide, by decide⟩
theorem tb52 : mjtb mjG mjM 54 2 yX6_valueAt cX6_valueAt 2 (some .int) := ⟨rfl, mg437, by decide, by decide⟩
theorem tb53 : mjtb mjG mjM 80 1 yX11_isDigit cX11_isDigit 1 (some .boolean) := ⟨rfl, mg442, by decide, by decide⟩
theorem tb54 : mjtb mjG mjM 81 3 yX11_digitsAt cX11_digitsAt 4 (some .int) := ⟨rfl, mg445, by decide, by decide⟩
theorem tb55 : mjtb mjG mjM 82 2 yX11_signAt cX11_signAt 3 (some .int) := ⟨rfl, mg448, by decide, by decide⟩
theorem tb56 : mjtb mjG mjM 79 1 yX11_formOf cX11_formOf 1 (some (.object "java/lang/String")) := ⟨rfl, mg451, by decide, by decide⟩
theorem tb57 : mjtb mjG mjM 1 1 yJ0_isEmpty_aae02 cJ0_isEmpty_aae02 1 (some .boolean) := ⟨rfl, mg453, by decide, by decide⟩
theorem tb58 : mjtb mjG mjM 3 1 yJ0_length_8abf5 cJ0_length_8abf5 1 (some .int) := ⟨rfl, mg457, by decide, by decide⟩
theorem tb59 : mjtb mjG mjM 8 2 yJ0_charAt_5068e cJ0_charAt_5068e 2 (some .char) := ⟨rfl, mg461, by decide, by decide⟩
theorem tb60 : mjtb mjG mjM 83 3 yX11_sizeOfPart cX11_sizeOfPart 3 (some .int) := ⟨rfl, mg466, by decide, by decide⟩
theorem tb61 : mjtb mjG mjM 84 3 yX11_numberAt cX11_numberAt 5 (some .int) := ⟨rfl, mg469, by decide, by decide⟩
theorem tb62 : mjtb mjG mjM 85 3 yX11_readStatement cX11_readStatement 9 (some .int) := ⟨rfl, mg472, by decide, by decide⟩
theorem tb63 : mjtb mjG mjM 78 3 yX11_refusalOfRow cX11_refusalOfRow 3 (some .int) := ⟨rfl, mg476, by decide, by decide⟩
theorem tb64 : mjtb mjG mjM 86 2 yX11_firstWrongByte cX11_firstWrongByte 5 (some .int) := ⟨rfl, mg480, by decide, by decide⟩
theorem tb65 : mjtb mjG mjM 67 2 yX10_become cX10_become 3 none := ⟨rfl, mg484, by decide, by decide⟩
theorem tb66 : mjtb mjG mjM 75 3 yX10_takes cX10_takes 3 (some .boolean) := ⟨rfl, mg488, by decide, by decide⟩
theorem tb67 : mjtb mjG mjM 91 2 yX11_lookerNumbered cX11_lookerNumbered 2 (some (.object "LookAtClock$Looker")) := ⟨rfl, mg501, by decide, by decide⟩
theorem tb68 : mjtb mjG mjM 12 1 yX0_kind cX0_kind 1 (some .int) := ⟨rfl, mg506, by decide, by decide⟩
theorem tb69 : mjtb mjG mjM 18 1 yX1_kind cX1_kind 1 (some .int) := ⟨rfl, mg512, by decide, by decide⟩
theorem tb70 : mjtb mjG mjM 23 1 yX2_kind cX2_kind 1 (some .int) := ⟨rfl, mg515, by decide, by decide⟩
theorem tb71 : mjtb mjG mjM 46 1 yX4_kind cX4_kind 1 (some .int) := ⟨rfl, mg505, by decide, by decide⟩
theorem tb72 : mjtb mjG mjM 48 1 yX5_kind cX5_kind 1 (some .int) := ⟨rfl, mg519, by decide, by decide⟩
theorem tb73 : mjtb mjG mjM 58 1 yX7_kind cX7_kind 1 (some .int) := ⟨rfl, mg522, by decide, by decide⟩
theorem tb74 : mjtb mjG mjM 61 1 yX8_kind cX8_kind 1 (some .int) := ⟨rfl, mg525, by decide, by decide⟩
theorem tb75 : mjtb mjG mjM 64 1 yX9_kind cX9_kind 1 (some .int) := ⟨rfl, mg528, by decide, by decide⟩
theorem tb76 : mjtb mjG mjM 44 5 yX3_live cX3_live 8 none := ⟨rfl, mg537, by decide, by decide⟩
theorem tb77 : mjtb mjG mjM 45 2 yX3_lookNumbered cX3_lookNumbered 2 (some .int) := ⟨rfl, mg546, by decide, by decide⟩
theorem tb78 : mjtb mjG mjM 104 1 yX11_areThoughts cX11_areThoughts 4 (some .boolean) := ⟨rfl, mg557, by decide, by decide⟩
theorem tb79 : mjtb mjG mjM 105 2 yX11_couldBe cX11_couldBe 4 (some .boolean) := ⟨rfl, mg560, by decide, by decide⟩
theorem tb80 : mjtb mjG mjM 109 3 yX11_isOffer cX11_isOffer 3 (some .boolean) := ⟨rfl, mg564, by decide, by decide⟩
theorem tb81 : mjtb mjG mjM 112 2 yX11_otherPriceAt cX11_otherPriceAt 2 (some .int) := ⟨rfl, mg568, by decide, by decide⟩
theorem tb82 : mjtb mjG mjM 116 1 yX11_countCosts cX11_countCosts 3 none := ⟨rfl, mg570, by decide, by decide⟩
theorem tb83 : mjtb mjG mjM 118 2 yX11_weightOf cX11_weightOf 4 (some .int) := ⟨rfl, mg574, by decide, by decide⟩
theorem tb84 : mjtb mjG mjM 56 1 yX6_leastOfSort cX6_leastOfSort 1 (some .int) := ⟨rfl, mg582, by decide, by decide⟩
theorem tb85 : mjtb mjG mjM 68 1 yX10_allWalks cX10_allWalks 3 (some .int) := ⟨rfl, mg588, by decide, by decide⟩
theorem tb86 : mjtb mjG mjM 51 3 yX6_begin cX6_begin 3 none := ⟨rfl, mg592, by decide, by decide⟩
theorem tb87 : mjtb mjG mjM 55 3 yX6_putIn cX6_putIn 3 none := ⟨rfl, mg597, by decide, by decide⟩
theorem tb88 : mjtb mjG mjM 53 3 yX6_hasPlaces cX6_hasPlaces 3 (some .boolean) := ⟨rfl, mg601, by decide, by decide⟩
theorem tb89 : mjtb mjG mjM 129 2 yX11_refusalOfLooker cX11_refusalOfLooker 2 (some .int) := ⟨rfl, mg607, by decide, by decide⟩
theorem tb90 : mjtb mjG mjM 16 1 yX0_ownSkill cX0_ownSkill 1 (some .int) := ⟨rfl, mg611, by decide, by decide⟩
theorem tb91 : mjtb mjG mjM 49 1 yX5_ownSkill cX5_ownSkill 1 (some .int) := ⟨rfl, mg618, by decide, by decide⟩
theorem tb92 : mjtb mjG mjM 59 1 yX7_ownSkill cX7_ownSkill 1 (some .int) := ⟨rfl, mg621, by decide, by decide⟩
theorem tb93 : mjtb mjG mjM 62 1 yX8_ownSkill cX8_ownSkill 1 (some .int) := ⟨rfl, mg624, by decide, by decide⟩
theorem tb94 : mjtb mjG mjM 65 1 yX9_ownSkill cX9_ownSkill 1 (some .int) := ⟨rfl, mg627, by decide, by decide⟩
theorem tb95 : mjtb mjG mjM 132 3 yX12_isIn cX12_isIn 3 (some .boolean) := ⟨rfl, mg662, by decide, by decide⟩
theorem tb96 : mjtb mjG mjM 134 2 yX12_move cX12_move 3 none := ⟨rfl, mg667, by decide, by decide⟩
theorem tb97 : mjtb mjG mjM 133 1 yX12_isMinute cX12_isMinute 1 (some .boolean) := ⟨rfl, mg670, by decide, by decide⟩
theorem tb98 : mjtb mjG mjM 139 2 yX12_priceBy cX12_priceBy 3 (some .int) := ⟨rfl, mg673, by decide, by decide⟩
theorem tb99 : mjtb mjG mjM 137 2 yX12_isWork cX12_isWork 2 (some .boolean) := ⟨rfl, mg675, by decide, by decide⟩
theorem tb100 : mjtb mjG mjM 138 2 yX12_isLooker cX12_isLooker 2 (some .boolean) := ⟨rfl, mg679, by decide, by decide⟩
theorem tb101 : mjtb mjG mjM 143 2 yX12_early cX12_early 2 (some .int) := ⟨rfl, mg684, by decide, by decide⟩
theorem tb102 : mjtb mjG mjM 146 3 yX12_thought cX12_thought 3 (some .int) := ⟨rfl, mg688, by decide, by decide⟩
theorem tb103 : mjtb mjG mjM 152 4 yX12_bestOf cX12_bestOf 8 (some .int) := ⟨rfl, mg691, by decide, by decide⟩
theorem tb104 : mjtb mjG mjM 148 2 yX12_isPlanned cX12_isPlanned 4 (some .boolean) := ⟨rfl, mg700, by decide, by decide⟩
theorem tb105 : mjtb mjG mjM 149 1 yX12_isClock cX12_isClock 1 (some .boolean) := ⟨rfl, mg705, by decide, by decide⟩
theorem tb106 : mjtb mjG mjM 150 2 yX12_pays cX12_pays 2 (some .int) := ⟨rfl, mg708, by decide, by decide⟩
theorem tb107 : mjtb mjG mjM 151 6 yX12_dayOf cX12_dayOf 16 (some .int) := ⟨rfl, mg711, by decide, by decide⟩
theorem tb108 : mjtb mjG mjM 153 2 yX12_dayOf_ cX12_dayOf_ 2 (some .int) := ⟨rfl, mg715, by decide, by decide⟩
theorem tb109 : mjtb mjG mjM 164 2 yX12_shareOf cX12_shareOf 2 (some .int) := ⟨rfl, mg720, by decide, by decide⟩
theorem tb110 : mjtb mjG mjM 167 5 yX12_isSold cX12_isSold 5 (some .boolean) := ⟨rfl, mg722, by decide, by decide⟩
theorem tb111 : mjtb mjG mjM 170 2 yX12_otherPrice cX12_otherPrice 2 (some .int) := ⟨rfl, mg726, by decide, by decide⟩
theorem tb112 : mjtb mjG mjM 179 2 yX12_comes_ cX12_comes_ 2 (some .boolean) := ⟨rfl, mg738, by decide, by decide⟩
theorem tb113 : mjtb mjG mjM 181 1 yX12_isDigit cX12_isDigit 1 (some .boolean) := ⟨rfl, mg742, by decide, by decide⟩
theorem tb114 : mjtb mjG mjM 182 2 yX12_figures cX12_figures 4 (some .int) := ⟨rfl, mg746, by decide, by decide⟩
theorem tb115 : mjtb mjG mjM 180 2 yX12_expect cX12_expect 2 none := ⟨rfl, mg750, by decide, by decide⟩
theorem tb116 : mjtb mjG mjM 183 1 yX12_statement cX12_statement 4 (some .int) := ⟨rfl, mg754, by decide, by decide⟩
theorem tb117 : mjtb mjG mjM 184 7 yX12_isAsTold cX12_isAsTold 7 (some .boolean) := ⟨rfl, mg758, by decide, by decide⟩
theorem tb118 : mjtb mjG mjM 185 2 yX12_come cX12_come 2 none := ⟨rfl, mg762, by decide, by decide⟩
theorem tb119 : mjtb mjG mjM 186 1 yX12_read cX12_read 9 (some .int) := ⟨rfl, mg766, by decide, by decide⟩
theorem tb120 : mjtb mjG mjM 194 2 yX12_skillOf cX12_skillOf 3 (some .int) := ⟨rfl, mg771, by decide, by decide⟩
theorem mjcs15 : ∀ c ∈ [6], ∃ q, vwCl[c]? = some q ∧ q.1 = "LookAtClock$Row" := by
  intro c hc
  simp at hc
  subst hc
  exact ⟨_, rfl, rfl⟩
theorem mjcs14 : ∀ c ∈ [0, 1, 2, 4, 5, 7, 8, 9], ∃ q, vwCl[c]? = some q ∧ q.1 ∈ mjsubs := by
  intro c hc
  simp at hc
  rcases hc with rfl | rfl | rfl | rfl | rfl | rfl | rfl | rfl <;> exact ⟨_, rfl, by decide +kernel⟩
theorem mjsup (j : Nat) : ∀ q ∈ ([(0, j), (1, j), (2, j), (4, j), (5, j), (7, j), (8, j), (9, j)] : List (Nat × Nat)), q.2 = j ∧ ∃ r, vwCl[q.1]? = some r := by
  intro q hq
  simp at hq
  rcases hq with rfl | rfl | rfl | rfl | rfl | rfl | rfl | rfl <;> exact ⟨rfl, _, rfl⟩
theorem vt0 : ∀ q ∈ ([(10, 33)] : List (Nat × Nat)), mjvV mjG mjM "LookAtClock$Told" 15 1 yX10_nextPlanned q.1 q.2 ∨ mjvU mjG mjM "LookAtClock$Told" 15 1 yX10_nextPlanned q.1 q.2 ∨ mjvO mjG mjM "LookAtClock$Told" 15 1 yX10_nextPlanned q.1 q.2 := (List.forall_mem_cons.mpr ⟨Or.inl ⟨(RX10, TX10, 9), cX10_nextPlanned, 3, (some .int), rfl, tb12, np12, mg182, mg183, mg184, mg185⟩, (fun _ h => nomatch h)⟩)
theorem vt1 : ∀ q ∈ ([(0, 35), (1, 35), (2, 35), (4, 35), (5, 35), (7, 36), (8, 38), (9, 35)] : List (Nat × Nat)), mjvV mjG mjM "LookAtClock$Day" 119 1 yX4_fee q.1 q.2 ∨ mjvU mjG mjM "LookAtClock$Day" 119 1 yX4_fee q.1 q.2 ∨ mjvO mjG mjM "LookAtClock$Day" 119 1 yX4_fee q.1 q.2 := (List.forall_mem_cons.mpr ⟨Or.inr (Or.inl ⟨(RX0, TX0, 4), "LookAtClock$Looker", cX4_fee, 2, (some .int), rfl, tb14, np14, mg194, mg195, mg196, mg197, mg142⟩), (List.forall_mem_cons.mpr ⟨Or.inr (Or.inl ⟨(RX1, TX1, 4), "LookAtClock$Looker", cX4_fee, 2, (some .int), rfl, tb14, np14, mg194, mg195, mg198, mg197, mg142⟩), (List.forall_mem_cons.mpr ⟨Or.inr (Or.inl ⟨(RX2, TX2, 4), "LookAtClock$Looker", cX4_fee, 2, (some .int), rfl, tb14, np14, mg194, mg195, mg199, mg197, mg142⟩), (List.forall_mem_cons.mpr ⟨Or.inl ⟨(RX4, TX4, 4), cX4_fee, 2, (some .int), rfl, tb14, np15, mg194, mg197, mg200, mg142⟩, (List.forall_mem_cons.mpr ⟨Or.inr (Or.inl ⟨(RX5, TX5, 4), "LookAtClock$Looker", cX4_fee, 2, (some .int), rfl, tb14, np14, mg194, mg195, mg201, mg197, mg142⟩), (List.forall_mem_cons.mpr ⟨Or.inr (Or.inr ⟨(RX7, TX7, 4), "LookAtClock$Looker", yX7_fee, cX7_fee, 2, (some .int), _, _, _, rfl, tb15, np14, mg193, mg194, mg195, mg197, mg203, mg204, mg205⟩), (List.forall_mem_cons.mpr ⟨Or.inr (Or.inr ⟨(RX8, TX8, 4), "LookAtClock$Looker", yX8_fee, cX8_fee, 2, (some .int), _, _, _, rfl, tb16, np14, mg193, mg194, mg195, mg197, mg207, mg208, mg209⟩), (List.forall_mem_cons.mpr ⟨Or.inr (Or.inl ⟨(RX9, TX9, 4), "LookAtClock$Looker", cX4_fee, 2, (some .int), rfl, tb14, np14, mg194, mg195, mg210, mg197, mg142⟩), (fun _ h => nomatch h)⟩)⟩)⟩)⟩)⟩)⟩)⟩)⟩)
theorem vt2 : ∀ q ∈ ([(0, 27), (1, 27), (2, 27), (4, 27), (5, 28), (7, 27), (8, 27), (9, 29)] : List (Nat × Nat)), mjvV mjG mjM "LookAtClock$Day" 101 1 yX4_early q.1 q.2 ∨ mjvU mjG mjM "LookAtClock$Day" 101 1 yX4_early q.1 q.2 ∨ mjvO mjG mjM "LookAtClock$Day" 101 1 yX4_early q.1 q.2 := (List.forall_mem_cons.mpr ⟨Or.inr (Or.inl ⟨(RX0, TX0, 4), "LookAtClock$Looker", cX4_early, 2, (some .int), rfl, tb17, np16, mg217, mg218, mg219, mg220, mg142⟩), (List.forall_mem_cons.mpr ⟨Or.inr (Or.inl ⟨(RX1, TX1, 4), "LookAtClock$Looker", cX4_early, 2, (some .int), rfl, tb17, np16, mg217, mg218, mg221, mg220, mg142⟩), (List.forall_mem_cons.mpr ⟨Or.inr (Or.inl ⟨(RX2, TX2, 4), "LookAtClock$Looker", cX4_early, 2, (some .int), rfl, tb17, np16, mg217, mg218, mg222, mg220, mg142⟩), (List.forall_mem_cons.mpr ⟨Or.inl ⟨(RX4, TX4, 4), cX4_early, 2, (some .int), rfl, tb17, np17, mg217, mg220, mg223, mg142⟩, (List.forall_mem_cons.mpr ⟨Or.inr (Or.inr ⟨(RX5, TX5, 4), "LookAtClock$Looker", yX5_early, cX5_early, 2, (some .int), _, _, _, rfl, tb18, np16, mg216, mg217, mg218, mg220, mg225, mg226, mg227⟩), (List.forall_mem_cons.mpr ⟨Or.inr (Or.inl ⟨(RX7, TX7, 4), "LookAtClock$Looker", cX4_early, 2, (some .int), rfl, tb17, np16, mg217, mg218, mg228, mg220, mg142⟩), (List.forall_mem_cons.mpr ⟨Or.inr (Or.inl ⟨(RX8, TX8, 4), "LookAtClock$Looker", cX4_early, 2, (some .int), rfl, tb17, np16, mg217, mg218, mg229, mg220, mg142⟩), (List.forall_mem_cons.mpr ⟨Or.inr (Or.inr ⟨(RX9, TX9, 4), "LookAtClock$Looker", yX9_early, cX9_early, 2, (some .int), _, _, _, rfl, tb19, np16, mg216, mg217, mg218, mg220, mg231, mg232, mg233⟩), (fun _ h => nomatch h)⟩)⟩)⟩)⟩)⟩)⟩)⟩)⟩)
theorem vt3 : ∀ q ∈ ([(3, 31)] : List (Nat × Nat)), mjvV mjG mjM "LookAtClock$Day" 105 2 yX3_firstThinking q.1 q.2 ∨ mjvU mjG mjM "LookAtClock$Day" 105 2 yX3_firstThinking q.1 q.2 ∨ mjvO mjG mjM "LookAtClock$Day" 105 2 yX3_firstThinking q.1 q.2 := (List.forall_mem_cons.mpr ⟨Or.inl ⟨(RX3, TX3, 13), cX3_firstThinking, 7, (some .int), rfl, tb20, np18, mg235, mg236, mg237, mg238⟩, (fun _ h => nomatch h)⟩)
theorem vt4 : ∀ q ∈ ([(0, 24), (1, 21), (2, 24), (4, 32), (5, 32), (7, 21), (8, 24), (9, 34)] : List (Nat × Nat)), mjvV mjG mjM "LookAtClock$Day" 108 4 yX4_nextLook q.1 q.2 ∨ mjvU mjG mjM "LookAtClock$Day" 108 4 yX4_nextLook q.1 q.2 ∨ mjvO mjG mjM "LookAtClock$Day" 108 4 yX4_nextLook q.1 q.2 := (List.forall_mem_cons.mpr ⟨Or.inr (Or.inr ⟨(RX0, TX0, 4), "LookAtClock$Looker", yX2_nextLook, cX2_nextLook, 5, (some .int), _, _, _, rfl, tb21, np19, mg242, mg244, mg245, mg246, mg247, mg248, mg146⟩), (List.forall_mem_cons.mpr ⟨Or.inr (Or.inr ⟨(RX1, TX1, 4), "LookAtClock$Looker", yX1_nextLook, cX1_nextLook, 5, (some .int), _, _, _, rfl, tb22, np19, mg242, mg244, mg245, mg246, mg250, mg251, mg252⟩), (List.forall_mem_cons.mpr ⟨Or.inr (Or.inr ⟨(RX2, TX2, 4), "LookAtClock$Looker", yX2_nextLook, cX2_nextLook, 5, (some .int), _, _, _, rfl, tb21, np19, mg242, mg244, mg245, mg246, mg253, mg248, mg146⟩), (List.forall_mem_cons.mpr ⟨Or.inl ⟨(RX4, TX4, 4), cX4_nextLook, 5, (some .int), rfl, tb23, np20, mg244, mg246, mg254, mg142⟩, (List.forall_mem_cons.mpr ⟨Or.inr (Or.inl ⟨(RX5, TX5, 4), "LookAtClock$Looker", cX4_nextLook, 5, (some .int), rfl, tb23, np19, mg244, mg245, mg255, mg246, mg142⟩), (List.forall_mem_cons.mpr ⟨Or.inr (Or.inr ⟨(RX7, TX7, 4), "LookAtClock$Looker", yX1_nextLook, cX1_nextLook, 5, (some .int), _, _, _, rfl, tb22, np19, mg242, mg244, mg245, mg246, mg256, mg251, mg252⟩), (List.forall_mem_cons.mpr ⟨Or.inr (Or.inr ⟨(RX8, TX8, 4), "LookAtClock$Looker", yX2_nextLook, cX2_nextLook, 5, (some .int), _, _, _, rfl, tb21, np19, mg242, mg244, mg245, mg246, mg257, mg248, mg146⟩), (List.forall_mem_cons.mpr ⟨Or.inr (Or.inr ⟨(RX9, TX9, 4), "LookAtClock$Looker", yX9_nextLook, cX9_nextLook, 5, (some .int), _, _, _, rfl, tb24, np19, mg242, mg244, mg245, mg246, mg259, mg260, mg233⟩), (fun _ h => nomatch h)⟩)⟩)⟩)⟩)⟩)⟩)⟩)⟩)
theorem vt5 : ∀ q ∈ ([(3, 39)] : List (Nat × Nat)), mjvV mjG mjM "LookAtClock$Day" 112 2 yX3_lookAt q.1 q.2 ∨ mjvU mjG mjM "LookAtClock$Day" 112 2 yX3_lookAt q.1 q.2 ∨ mjvO mjG mjM "LookAtClock$Day" 112 2 yX3_lookAt q.1 q.2 := (List.forall_mem_cons.mpr ⟨Or.inl ⟨(RX3, TX3, 13), cX3_lookAt, 4, none, rfl, tb25, np21, mg262, mg263, mg264, mg238⟩, (fun _ h => nomatch h)⟩)
theorem vt6 : ∀ q ∈ ([(10, 41)] : List (Nat × Nat)), mjvV mjG mjM "LookAtClock$Day" 86 1 yX10_hasWork q.1 q.2 ∨ mjvU mjG mjM "LookAtClock$Day" 86 1 yX10_hasWork q.1 q.2 ∨ mjvO mjG mjM "LookAtClock$Day" 86 1 yX10_hasWork q.1 q.2 := (List.forall_mem_cons.mpr ⟨Or.inl ⟨(RX10, TX10, 9), cX10_hasWork, 2, (some .boolean), rfl, tb26, np22, mg268, mg269, mg270, mg185⟩, (fun _ h => nomatch h)⟩)
theorem vt7 : ∀ q ∈ ([(3, 40)] : List (Nat × Nat)), mjvV mjG mjM "LookAtClock$Day" 78 2 yX3_goingMinute q.1 q.2 ∨ mjvU mjG mjM "LookAtClock$Day" 78 2 yX3_goingMinute q.1 q.2 ∨ mjvO mjG mjM "LookAtClock$Day" 78 2 yX3_goingMinute q.1 q.2 := (List.forall_mem_cons.mpr ⟨Or.inl ⟨(RX3, TX3, 13), cX3_goingMinute, 9, (some .int), rfl, tb27, np23, mg280, mg281, mg282, mg238⟩, (fun _ h => nomatch h)⟩)
theorem vt8 : ∀ q ∈ ([(3, 42)] : List (Nat × Nat)), mjvV mjG mjM "LookAtClock$Day" 82 2 yX3_comeTo q.1 q.2 ∨ mjvU mjG mjM "LookAtClock$Day" 82 2 yX3_comeTo q.1 q.2 ∨ mjvO mjG mjM "LookAtClock$Day" 82 2 yX3_comeTo q.1 q.2 := (List.forall_mem_cons.mpr ⟨Or.inl ⟨(RX3, TX3, 13), cX3_comeTo, 5, none, rfl, tb28, np24, mg284, mg285, mg286, mg238⟩, (fun _ h => nomatch h)⟩)
theorem vt9 : ∀ q ∈ ([(0, 13), (1, 26), (2, 26), (4, 26), (5, 26), (7, 26), (8, 26), (9, 26)] : List (Nat × Nat)), mjvV mjG mjM "LookAtClock$Day" 24 0 yX4_choosesFigure q.1 q.2 ∨ mjvU mjG mjM "LookAtClock$Day" 24 0 yX4_choosesFigure q.1 q.2 ∨ mjvO mjG mjM "LookAtClock$Day" 24 0 yX4_choosesFigure q.1 q.2 := (List.forall_mem_cons.mpr ⟨Or.inr (Or.inr ⟨(RX0, TX0, 4), "LookAtClock$Looker", yX0_choosesFigure, cX0_choosesFigure, 1, (some .boolean), _, _, _, rfl, tb29, np25, mg288, mg290, mg291, mg292, mg293, mg294, mg295⟩), (List.forall_mem_cons.mpr ⟨Or.inr (Or.inl ⟨(RX1, TX1, 4), "LookAtClock$Looker", cX4_choosesFigure, 1, (some .boolean), rfl, tb30, np25, mg290, mg291, mg296, mg292, mg142⟩), (List.forall_mem_cons.mpr ⟨Or.inr (Or.inl ⟨(RX2, TX2, 4), "LookAtClock$Looker", cX4_choosesFigure, 1, (some .boolean), rfl, tb30, np25, mg290, mg291, mg297, mg292, mg142⟩), (List.forall_mem_cons.mpr ⟨Or.inl ⟨(RX4, TX4, 4), cX4_choosesFigure, 1, (some .boolean), rfl, tb30, np26, mg290, mg292, mg298, mg142⟩, (List.forall_mem_cons.mpr ⟨Or.inr (Or.inl ⟨(RX5, TX5, 4), "LookAtClock$Looker", cX4_choosesFigure, 1, (some .boolean), rfl, tb30, np25, mg290, mg291, mg299, mg292, mg142⟩), (List.forall_mem_cons.mpr ⟨Or.inr (Or.inl ⟨(RX7, TX7, 4), "LookAtClock$Looker", cX4_choosesFigure, 1, (some .boolean), rfl, tb30, np25, mg290, mg291, mg300, mg292, mg142⟩), (List.forall_mem_cons.mpr ⟨Or.inr (Or.inl ⟨(RX8, TX8, 4), "LookAtClock$Looker", cX4_choosesFigure, 1, (some .boolean), rfl, tb30, np25, mg290, mg291, mg301, mg292, mg142⟩), (List.forall_mem_cons.mpr ⟨Or.inr (Or.inl ⟨(RX9, TX9, 4), "LookAtClock$Looker", cX4_choosesFigure, 1, (some .boolean), rfl, tb30, np25, mg290, mg291, mg302, mg292, mg142⟩), (fun _ h => nomatch h)⟩)⟩)⟩)⟩)⟩)⟩)⟩)⟩)
theorem vt10 : ∀ q ∈ ([(3, 43)] : List (Nat × Nat)), mjvV mjG mjM "LookAtClock$Day" 28 5 yX3_liveBy q.1 q.2 ∨ mjvU mjG mjM "LookAtClock$Day" 28 5 yX3_liveBy q.1 q.2 ∨ mjvO mjG mjM "LookAtClock$Day" 28 5 yX3_liveBy q.1 q.2 := (List.forall_mem_cons.mpr ⟨Or.inl ⟨(RX3, TX3, 13), cX3_liveBy, 7, none, rfl, tb31, np27, mg304, mg305, mg306, mg238⟩, (fun _ h => nomatch h)⟩)
theorem vt11 : ∀ q ∈ ([(6, 52)] : List (Nat × Nat)), mjvV mjG mjM "LookAtClock$Row" 28 1 yX6_hasPlace q.1 q.2 ∨ mjvU mjG mjM "LookAtClock$Row" 28 1 yX6_hasPlace q.1 q.2 ∨ mjvO mjG mjM "LookAtClock$Row" 28 1 yX6_hasPlace q.1 q.2 := (List.forall_mem_cons.mpr ⟨Or.inl ⟨(RX6, TX6, 3), cX6_hasPlace, 2, (some .boolean), rfl, tb33, np29, mg321, mg322, mg323, mg324⟩, (fun _ h => nomatch h)⟩)
theorem vt12 : ∀ q ∈ ([(10, 70)] : List (Nat × Nat)), mjvV mjG mjM "LookAtClock$Town" 49 3 yX10_takesWork q.1 q.2 ∨ mjvU mjG mjM "LookAtClock$Town" 49 3 yX10_takesWork q.1 q.2 ∨ mjvO mjG mjM "LookAtClock$Town" 49 3 yX10_takesWork q.1 q.2 := (List.forall_mem_cons.mpr ⟨Or.inl ⟨(RX10, TX10, 9), cX10_takesWork, 4, (some .boolean), rfl, tb43, np39, mg391, mg392, mg393, mg185⟩, (fun _ h => nomatch h)⟩)
theorem vt13 : ∀ q ∈ ([(10, 72)] : List (Nat × Nat)), mjvV mjG mjM "LookAtClock$Town" 53 4 yX10_takesLooker q.1 q.2 ∨ mjvU mjG mjM "LookAtClock$Town" 53 4 yX10_takesLooker q.1 q.2 ∨ mjvO mjG mjM "LookAtClock$Town" 53 4 yX10_takesLooker q.1 q.2 := (List.forall_mem_cons.mpr ⟨Or.inl ⟨(RX10, TX10, 9), cX10_takesLooker, 5, (some .boolean), rfl, tb44, np40, mg395, mg396, mg397, mg185⟩, (fun _ h => nomatch h)⟩)
theorem vt14 : ∀ q ∈ ([(10, 73)] : List (Nat × Nat)), mjvV mjG mjM "LookAtClock$Town" 57 1 yX10_takesLaw q.1 q.2 ∨ mjvU mjG mjM "LookAtClock$Town" 57 1 yX10_takesLaw q.1 q.2 ∨ mjvO mjG mjM "LookAtClock$Town" 57 1 yX10_takesLaw q.1 q.2 := (List.forall_mem_cons.mpr ⟨Or.inl ⟨(RX10, TX10, 9), cX10_takesLaw, 2, (some .boolean), rfl, tb45, np41, mg399, mg400, mg401, mg185⟩, (fun _ h => nomatch h)⟩)
theorem vt15 : ∀ q ∈ ([(10, 74)] : List (Nat × Nat)), mjvV mjG mjM "LookAtClock$Town" 61 1 yX10_takesPlanned q.1 q.2 ∨ mjvU mjG mjM "LookAtClock$Town" 61 1 yX10_takesPlanned q.1 q.2 ∨ mjvO mjG mjM "LookAtClock$Town" 61 1 yX10_takesPlanned q.1 q.2 := (List.forall_mem_cons.mpr ⟨Or.inl ⟨(RX10, TX10, 9), cX10_takesPlanned, 2, (some .boolean), rfl, tb46, np42, mg403, mg404, mg405, mg185⟩, (fun _ h => nomatch h)⟩)
theorem vt16 : ∀ q ∈ ([(11, 197)] : List (Nat × Nat)), mjvV mjG mjM "LookAtClock" 255 1 yX11_holdsRow q.1 q.2 ∨ mjvU mjG mjM "LookAtClock" 255 1 yX11_holdsRow q.1 q.2 ∨ mjvO mjG mjM "LookAtClock" 255 1 yX11_holdsRow q.1 q.2 := (List.forall_mem_cons.mpr ⟨Or.inl ⟨(RX11, TX11, 10), cX11_holdsRow, 2, (some .boolean), rfl, tb51, np47, mg433, mg434, mg435, mg161⟩, (fun _ h => nomatch h)⟩)
theorem vt17 : ∀ q ∈ ([(6, 54)] : List (Nat × Nat)), mjvV mjG mjM "LookAtClock" 76 1 yX6_valueAt q.1 q.2 ∨ mjvU mjG mjM "LookAtClock" 76 1 yX6_valueAt q.1 q.2 ∨ mjvO mjG mjM "LookAtClock" 76 1 yX6_valueAt q.1 q.2 := (List.forall_mem_cons.mpr ⟨Or.inl ⟨(RX6, TX6, 3), cX6_valueAt, 2, (some .int), rfl, tb52, np48, mg438, mg439, mg440, mg324⟩, (fun _ h => nomatch h)⟩)
theorem vt18 : ∀ q ∈ ([(11, 85)] : List (Nat × Nat)), mjvV mjG mjM "LookAtClock" 72 2 yX11_readStatement q.1 q.2 ∨ mjvU mjG mjM "LookAtClock" 72 2 yX11_readStatement q.1 q.2 ∨ mjvO mjG mjM "LookAtClock" 72 2 yX11_readStatement q.1 q.2 := (List.forall_mem_cons.mpr ⟨Or.inl ⟨(RX11, TX11, 10), cX11_readStatement, 9, (some .int), rfl, tb62, np58, mg473, mg474, mg475, mg161⟩, (fun _ h => nomatch h)⟩)
theorem vt19 : ∀ q ∈ ([(11, 78)] : List (Nat × Nat)), mjvV mjG mjM "LookAtClock" 56 2 yX11_refusalOfRow q.1 q.2 ∨ mjvU mjG mjM "LookAtClock" 56 2 yX11_refusalOfRow q.1 q.2 ∨ mjvO mjG mjM "LookAtClock" 56 2 yX11_refusalOfRow q.1 q.2 := (List.forall_mem_cons.mpr ⟨Or.inl ⟨(RX11, TX11, 10), cX11_refusalOfRow, 3, (some .int), rfl, tb63, np59, mg477, mg478, mg479, mg161⟩, (fun _ h => nomatch h)⟩)
theorem vt20 : ∀ q ∈ ([(11, 86)] : List (Nat × Nat)), mjvV mjG mjM "LookAtClock" 60 1 yX11_firstWrongByte q.1 q.2 ∨ mjvU mjG mjM "LookAtClock" 60 1 yX11_firstWrongByte q.1 q.2 ∨ mjvO mjG mjM "LookAtClock" 60 1 yX11_firstWrongByte q.1 q.2 := (List.forall_mem_cons.mpr ⟨Or.inl ⟨(RX11, TX11, 10), cX11_firstWrongByte, 5, (some .int), rfl, tb64, np60, mg481, mg482, mg483, mg161⟩, (fun _ h => nomatch h)⟩)
theorem vt21 : ∀ q ∈ ([(10, 67)] : List (Nat × Nat)), mjvV mjG mjM "LookAtClock" 64 1 yX10_become q.1 q.2 ∨ mjvU mjG mjM "LookAtClock" 64 1 yX10_become q.1 q.2 ∨ mjvO mjG mjM "LookAtClock" 64 1 yX10_become q.1 q.2 := (List.forall_mem_cons.mpr ⟨Or.inl ⟨(RX10, TX10, 9), cX10_become, 3, none, rfl, tb65, np61, mg485, mg486, mg487, mg185⟩, (fun _ h => nomatch h)⟩)
theorem vt22 : ∀ q ∈ ([(10, 75)] : List (Nat × Nat)), mjvV mjG mjM "LookAtClock" 80 2 yX10_takes q.1 q.2 ∨ mjvU mjG mjM "LookAtClock" 80 2 yX10_takes q.1 q.2 ∨ mjvO mjG mjM "LookAtClock" 80 2 yX10_takes q.1 q.2 := (List.forall_mem_cons.mpr ⟨Or.inl ⟨(RX10, TX10, 9), cX10_takes, 3, (some .boolean), rfl, tb66, np62, mg489, mg490, mg491, mg185⟩, (fun _ h => nomatch h)⟩)
theorem vt23 : ∀ q ∈ ([(10, 73)] : List (Nat × Nat)), mjvV mjG mjM "LookAtClock" 94 1 yX10_takesLaw q.1 q.2 ∨ mjvU mjG mjM "LookAtClock" 94 1 yX10_takesLaw q.1 q.2 ∨ mjvO mjG mjM "LookAtClock" 94 1 yX10_takesLaw q.1 q.2 := (List.forall_mem_cons.mpr ⟨Or.inl ⟨(RX10, TX10, 9), cX10_takesLaw, 2, (some .boolean), rfl, tb45, np41, mg494, mg400, mg401, mg185⟩, (fun _ h => nomatch h)⟩)
theorem vt24 : ∀ q ∈ ([(10, 41)] : List (Nat × Nat)), mjvV mjG mjM "LookAtClock" 97 1 yX10_hasWork q.1 q.2 ∨ mjvU mjG mjM "LookAtClock" 97 1 yX10_hasWork q.1 q.2 ∨ mjvO mjG mjM "LookAtClock" 97 1 yX10_hasWork q.1 q.2 := (List.forall_mem_cons.mpr ⟨Or.inl ⟨(RX10, TX10, 9), cX10_hasWork, 2, (some .boolean), rfl, tb26, np22, mg495, mg269, mg270, mg185⟩, (fun _ h => nomatch h)⟩)
theorem vt25 : ∀ q ∈ ([(11, 91)] : List (Nat × Nat)), mjvV mjG mjM "LookAtClock" 109 1 yX11_lookerNumbered q.1 q.2 ∨ mjvU mjG mjM "LookAtClock" 109 1 yX11_lookerNumbered q.1 q.2 ∨ mjvO mjG mjM "LookAtClock" 109 1 yX11_lookerNumbered q.1 q.2 := (List.forall_mem_cons.mpr ⟨Or.inl ⟨(RX11, TX11, 10), cX11_lookerNumbered, 2, (some (.object "LookAtClock$Looker")), rfl, tb67, np63, mg502, mg503, mg504, mg161⟩, (fun _ h => nomatch h)⟩)
theorem vt26 : ∀ q ∈ ([(0, 12), (1, 18), (2, 23), (4, 46), (5, 48), (7, 58), (8, 61), (9, 64)] : List (Nat × Nat)), mjvV mjG mjM "LookAtClock" 113 0 yX4_kind q.1 q.2 ∨ mjvU mjG mjM "LookAtClock" 113 0 yX4_kind q.1 q.2 ∨ mjvO mjG mjM "LookAtClock" 113 0 yX4_kind q.1 q.2 := (List.forall_mem_cons.mpr ⟨Or.inr (Or.inr ⟨(RX0, TX0, 4), "LookAtClock$Looker", yX0_kind, cX0_kind, 1, (some .int), _, _, _, rfl, tb68, np64, mg505, mg507, mg508, mg509, mg510, mg511, mg295⟩), (List.forall_mem_cons.mpr ⟨Or.inr (Or.inr ⟨(RX1, TX1, 4), "LookAtClock$Looker", yX1_kind, cX1_kind, 1, (some .int), _, _, _, rfl, tb69, np64, mg505, mg507, mg508, mg509, mg513, mg514, mg252⟩), (List.forall_mem_cons.mpr ⟨Or.inr (Or.inr ⟨(RX2, TX2, 4), "LookAtClock$Looker", yX2_kind, cX2_kind, 1, (some .int), _, _, _, rfl, tb70, np64, mg505, mg507, mg508, mg509, mg516, mg517, mg146⟩), (List.forall_mem_cons.mpr ⟨Or.inl ⟨(RX4, TX4, 4), cX4_kind, 1, (some .int), rfl, tb71, np65, mg507, mg509, mg518, mg142⟩, (List.forall_mem_cons.mpr ⟨Or.inr (Or.inr ⟨(RX5, TX5, 4), "LookAtClock$Looker", yX5_kind, cX5_kind, 1, (some .int), _, _, _, rfl, tb72, np64, mg505, mg507, mg508, mg509, mg520, mg521, mg227⟩), (List.forall_mem_cons.mpr ⟨Or.inr (Or.inr ⟨(RX7, TX7, 4), "LookAtClock$Looker", yX7_kind, cX7_kind, 1, (some .int), _, _, _, rfl, tb73, np64, mg505, mg507, mg508, mg509, mg523, mg524, mg205⟩), (List.forall_mem_cons.mpr ⟨Or.inr (Or.inr ⟨(RX8, TX8, 4), "LookAtClock$Looker", yX8_kind, cX8_kind, 1, (some .int), _, _, _, rfl, tb74, np64, mg505, mg507, mg508, mg509, mg526, mg527, mg209⟩), (List.forall_mem_cons.mpr ⟨Or.inr (Or.inr ⟨(RX9, TX9, 4), "LookAtClock$Looker", yX9_kind, cX9_kind, 1, (some .int), _, _, _, rfl, tb75, np64, mg505, mg507, mg508, mg509, mg529, mg530, mg233⟩), (fun _ h => nomatch h)⟩)⟩)⟩)⟩)⟩)⟩)⟩)⟩)
theorem vt27 : ∀ q ∈ ([(0, 27), (1, 27), (2, 27), (4, 27), (5, 28), (7, 27), (8, 27), (9, 29)] : List (Nat × Nat)), mjvV mjG mjM "LookAtClock" 123 1 yX4_early q.1 q.2 ∨ mjvU mjG mjM "LookAtClock" 123 1 yX4_early q.1 q.2 ∨ mjvO mjG mjM "LookAtClock" 123 1 yX4_early q.1 q.2 := (List.forall_mem_cons.mpr ⟨Or.inr (Or.inl ⟨(RX0, TX0, 4), "LookAtClock$Looker", cX4_early, 2, (some .int), rfl, tb17, np16, mg533, mg218, mg219, mg220, mg142⟩), (List.forall_mem_cons.mpr ⟨Or.inr (Or.inl ⟨(RX1, TX1, 4), "LookAtClock$Looker", cX4_early, 2, (some .int), rfl, tb17, np16, mg533, mg218, mg221, mg220, mg142⟩), (List.forall_mem_cons.mpr ⟨Or.inr (Or.inl ⟨(RX2, TX2, 4), "LookAtClock$Looker", cX4_early, 2, (some .int), rfl, tb17, np16, mg533, mg218, mg222, mg220, mg142⟩), (List.forall_mem_cons.mpr ⟨Or.inl ⟨(RX4, TX4, 4), cX4_early, 2, (some .int), rfl, tb17, np17, mg533, mg220, mg223, mg142⟩, (List.forall_mem_cons.mpr ⟨Or.inr (Or.inr ⟨(RX5, TX5, 4), "LookAtClock$Looker", yX5_early, cX5_early, 2, (some .int), _, _, _, rfl, tb18, np16, mg216, mg533, mg218, mg220, mg225, mg226, mg227⟩), (List.forall_mem_cons.mpr ⟨Or.inr (Or.inl ⟨(RX7, TX7, 4), "LookAtClock$Looker", cX4_early, 2, (some .int), rfl, tb17, np16, mg533, mg218, mg228, mg220, mg142⟩), (List.forall_mem_cons.mpr ⟨Or.inr (Or.inl ⟨(RX8, TX8, 4), "LookAtClock$Looker", cX4_early, 2, (some .int), rfl, tb17, np16, mg533, mg218, mg229, mg220, mg142⟩), (List.forall_mem_cons.mpr ⟨Or.inr (Or.inr ⟨(RX9, TX9, 4), "LookAtClock$Looker", yX9_early, cX9_early, 2, (some .int), _, _, _, rfl, tb19, np16, mg216, mg533, mg218, mg220, mg231, mg232, mg233⟩), (fun _ h => nomatch h)⟩)⟩)⟩)⟩)⟩)⟩)⟩)⟩)
theorem vt28 : ∀ q ∈ ([(3, 44)] : List (Nat × Nat)), mjvV mjG mjM "LookAtClock" 134 4 yX3_live q.1 q.2 ∨ mjvU mjG mjM "LookAtClock" 134 4 yX3_live q.1 q.2 ∨ mjvO mjG mjM "LookAtClock" 134 4 yX3_live q.1 q.2 := (List.forall_mem_cons.mpr ⟨Or.inl ⟨(RX3, TX3, 13), cX3_live, 8, none, rfl, tb76, np66, mg538, mg539, mg540, mg238⟩, (fun _ h => nomatch h)⟩)
theorem vt29 : ∀ q ∈ ([(3, 45)] : List (Nat × Nat)), mjvV mjG mjM "LookAtClock" 152 1 yX3_lookNumbered q.1 q.2 ∨ mjvU mjG mjM "LookAtClock" 152 1 yX3_lookNumbered q.1 q.2 ∨ mjvO mjG mjM "LookAtClock" 152 1 yX3_lookNumbered q.1 q.2 := (List.forall_mem_cons.mpr ⟨Or.inl ⟨(RX3, TX3, 13), cX3_lookNumbered, 2, (some .int), rfl, tb77, np67, mg547, mg548, mg549, mg238⟩, (fun _ h => nomatch h)⟩)
theorem vt30 : ∀ q ∈ ([(3, 43)] : List (Nat × Nat)), mjvV mjG mjM "LookAtClock" 170 5 yX3_liveBy q.1 q.2 ∨ mjvU mjG mjM "LookAtClock" 170 5 yX3_liveBy q.1 q.2 ∨ mjvO mjG mjM "LookAtClock" 170 5 yX3_liveBy q.1 q.2 := (List.forall_mem_cons.mpr ⟨Or.inl ⟨(RX3, TX3, 13), cX3_liveBy, 7, none, rfl, tb31, np27, mg553, mg305, mg306, mg238⟩, (fun _ h => nomatch h)⟩)
theorem vt31 : ∀ q ∈ ([(11, 116)] : List (Nat × Nat)), mjvV mjG mjM "LookAtClock" 208 0 yX11_countCosts q.1 q.2 ∨ mjvU mjG mjM "LookAtClock" 208 0 yX11_countCosts q.1 q.2 ∨ mjvO mjG mjM "LookAtClock" 208 0 yX11_countCosts q.1 q.2 := (List.forall_mem_cons.mpr ⟨Or.inl ⟨(RX11, TX11, 10), cX11_countCosts, 3, none, rfl, tb82, np72, mg571, mg572, mg573, mg161⟩, (fun _ h => nomatch h)⟩)
theorem vt32 : ∀ q ∈ ([(11, 118)] : List (Nat × Nat)), mjvV mjG mjM "LookAtClock" 214 1 yX11_weightOf q.1 q.2 ∨ mjvU mjG mjM "LookAtClock" 214 1 yX11_weightOf q.1 q.2 ∨ mjvO mjG mjM "LookAtClock" 214 1 yX11_weightOf q.1 q.2 := (List.forall_mem_cons.mpr ⟨Or.inl ⟨(RX11, TX11, 10), cX11_weightOf, 4, (some .int), rfl, tb83, np73, mg575, mg576, mg577, mg161⟩, (fun _ h => nomatch h)⟩)
theorem vt33 : ∀ q ∈ ([(6, 56)] : List (Nat × Nat)), mjvV mjG mjM "LookAtClock" 223 0 yX6_leastOfSort q.1 q.2 ∨ mjvU mjG mjM "LookAtClock" 223 0 yX6_leastOfSort q.1 q.2 ∨ mjvO mjG mjM "LookAtClock" 223 0 yX6_leastOfSort q.1 q.2 := (List.forall_mem_cons.mpr ⟨Or.inl ⟨(RX6, TX6, 3), cX6_leastOfSort, 1, (some .int), rfl, tb84, np74, mg583, mg584, mg585, mg324⟩, (fun _ h => nomatch h)⟩)
theorem vt34 : ∀ q ∈ ([(10, 68)] : List (Nat × Nat)), mjvV mjG mjM "LookAtClock" 232 0 yX10_allWalks q.1 q.2 ∨ mjvU mjG mjM "LookAtClock" 232 0 yX10_allWalks q.1 q.2 ∨ mjvO mjG mjM "LookAtClock" 232 0 yX10_allWalks q.1 q.2 := (List.forall_mem_cons.mpr ⟨Or.inl ⟨(RX10, TX10, 9), cX10_allWalks, 3, (some .int), rfl, tb85, np75, mg589, mg590, mg591, mg185⟩, (fun _ h => nomatch h)⟩)
theorem vt35 : ∀ q ∈ ([(6, 51)] : List (Nat × Nat)), mjvV mjG mjM "LookAtClock" 238 2 yX6_begin q.1 q.2 ∨ mjvU mjG mjM "LookAtClock" 238 2 yX6_begin q.1 q.2 ∨ mjvO mjG mjM "LookAtClock" 238 2 yX6_begin q.1 q.2 := (List.forall_mem_cons.mpr ⟨Or.inl ⟨(RX6, TX6, 3), cX6_begin, 3, none, rfl, tb86, np76, mg593, mg594, mg595, mg324⟩, (fun _ h => nomatch h)⟩)
theorem vt36 : ∀ q ∈ ([(6, 52)] : List (Nat × Nat)), mjvV mjG mjM "LookAtClock" 242 1 yX6_hasPlace q.1 q.2 ∨ mjvU mjG mjM "LookAtClock" 242 1 yX6_hasPlace q.1 q.2 ∨ mjvO mjG mjM "LookAtClock" 242 1 yX6_hasPlace q.1 q.2 := (List.forall_mem_cons.mpr ⟨Or.inl ⟨(RX6, TX6, 3), cX6_hasPlace, 2, (some .boolean), rfl, tb33, np29, mg596, mg322, mg323, mg324⟩, (fun _ h => nomatch h)⟩)
theorem vt37 : ∀ q ∈ ([(6, 55)] : List (Nat × Nat)), mjvV mjG mjM "LookAtClock" 245 2 yX6_putIn q.1 q.2 ∨ mjvU mjG mjM "LookAtClock" 245 2 yX6_putIn q.1 q.2 ∨ mjvO mjG mjM "LookAtClock" 245 2 yX6_putIn q.1 q.2 := (List.forall_mem_cons.mpr ⟨Or.inl ⟨(RX6, TX6, 3), cX6_putIn, 3, none, rfl, tb87, np77, mg598, mg599, mg600, mg324⟩, (fun _ h => nomatch h)⟩)
theorem vt38 : ∀ q ∈ ([(6, 53)] : List (Nat × Nat)), mjvV mjG mjM "LookAtClock" 268 2 yX6_hasPlaces q.1 q.2 ∨ mjvU mjG mjM "LookAtClock" 268 2 yX6_hasPlaces q.1 q.2 ∨ mjvO mjG mjM "LookAtClock" 268 2 yX6_hasPlaces q.1 q.2 := (List.forall_mem_cons.mpr ⟨Or.inl ⟨(RX6, TX6, 3), cX6_hasPlaces, 3, (some .boolean), rfl, tb88, np78, mg602, mg603, mg604, mg324⟩, (fun _ h => nomatch h)⟩)
theorem vt39 : ∀ q ∈ ([(11, 129)] : List (Nat × Nat)), mjvV mjG mjM "LookAtClock" 281 1 yX11_refusalOfLooker q.1 q.2 ∨ mjvU mjG mjM "LookAtClock" 281 1 yX11_refusalOfLooker q.1 q.2 ∨ mjvO mjG mjM "LookAtClock" 281 1 yX11_refusalOfLooker q.1 q.2 := (List.forall_mem_cons.mpr ⟨Or.inl ⟨(RX11, TX11, 10), cX11_refusalOfLooker, 2, (some .int), rfl, tb89, np79, mg608, mg609, mg610, mg161⟩, (fun _ h => nomatch h)⟩)
theorem vt40 : ∀ q ∈ ([(0, 16), (1, 22), (2, 15), (4, 14), (5, 49), (7, 59), (8, 62), (9, 65)] : List (Nat × Nat)), mjvV mjG mjM "LookAtClock" 284 0 yX4_ownSkill q.1 q.2 ∨ mjvU mjG mjM "LookAtClock" 284 0 yX4_ownSkill q.1 q.2 ∨ mjvO mjG mjM "LookAtClock" 284 0 yX4_ownSkill q.1 q.2 := (List.forall_mem_cons.mpr ⟨Or.inr (Or.inr ⟨(RX0, TX0, 4), "LookAtClock$Looker", yX0_ownSkill, cX0_ownSkill, 1, (some .int), _, _, _, rfl, tb90, np80, mg147, mg612, mg149, mg151, mg613, mg614, mg295⟩), (List.forall_mem_cons.mpr ⟨Or.inr (Or.inr ⟨(RX1, TX1, 4), "LookAtClock$Looker", yX1_ownSkill, cX1_ownSkill, 1, (some .int), _, _, _, rfl, tb35, np80, mg147, mg612, mg149, mg151, mg615, mg333, mg252⟩), (List.forall_mem_cons.mpr ⟨Or.inr (Or.inr ⟨(RX2, TX2, 4), "LookAtClock$Looker", yX2_ownSkill, cX2_ownSkill, 1, (some .int), _, _, _, rfl, tb8, np80, mg147, mg612, mg149, mg151, mg616, mg156, mg146⟩), (List.forall_mem_cons.mpr ⟨Or.inl ⟨(RX4, TX4, 4), cX4_ownSkill, 1, (some .int), rfl, tb7, np81, mg612, mg151, mg617, mg142⟩, (List.forall_mem_cons.mpr ⟨Or.inr (Or.inr ⟨(RX5, TX5, 4), "LookAtClock$Looker", yX5_ownSkill, cX5_ownSkill, 1, (some .int), _, _, _, rfl, tb91, np80, mg147, mg612, mg149, mg151, mg619, mg620, mg227⟩), (List.forall_mem_cons.mpr ⟨Or.inr (Or.inr ⟨(RX7, TX7, 4), "LookAtClock$Looker", yX7_ownSkill, cX7_ownSkill, 1, (some .int), _, _, _, rfl, tb92, np80, mg147, mg612, mg149, mg151, mg622, mg623, mg205⟩), (List.forall_mem_cons.mpr ⟨Or.inr (Or.inr ⟨(RX8, TX8, 4), "LookAtClock$Looker", yX8_ownSkill, cX8_ownSkill, 1, (some .int), _, _, _, rfl, tb93, np80, mg147, mg612, mg149, mg151, mg625, mg626, mg209⟩), (List.forall_mem_cons.mpr ⟨Or.inr (Or.inr ⟨(RX9, TX9, 4), "LookAtClock$Looker", yX9_ownSkill, cX9_ownSkill, 1, (some .int), _, _, _, rfl, tb94, np80, mg147, mg612, mg149, mg151, mg628, mg629, mg233⟩), (fun _ h => nomatch h)⟩)⟩)⟩)⟩)⟩)⟩)⟩)⟩)
theorem vt41 : ∀ q ∈ ([(12, 137)] : List (Nat × Nat)), mjvV mjG mjM "LookAtClockModel" 120 1 yX12_isWork q.1 q.2 ∨ mjvU mjG mjM "LookAtClockModel" 120 1 yX12_isWork q.1 q.2 ∨ mjvO mjG mjM "LookAtClockModel" 120 1 yX12_isWork q.1 q.2 := (List.forall_mem_cons.mpr ⟨Or.inl ⟨(RX12, TX12, 41), cX12_isWork, 2, (some .boolean), rfl, tb99, np86, mg676, mg677, mg678, mg664⟩, (fun _ h => nomatch h)⟩)
theorem vt42 : ∀ q ∈ ([(12, 138)] : List (Nat × Nat)), mjvV mjG mjM "LookAtClockModel" 123 1 yX12_isLooker q.1 q.2 ∨ mjvU mjG mjM "LookAtClockModel" 123 1 yX12_isLooker q.1 q.2 ∨ mjvO mjG mjM "LookAtClockModel" 123 1 yX12_isLooker q.1 q.2 := (List.forall_mem_cons.mpr ⟨Or.inl ⟨(RX12, TX12, 41), cX12_isLooker, 2, (some .boolean), rfl, tb100, np87, mg680, mg681, mg682, mg664⟩, (fun _ h => nomatch h)⟩)
theorem vt43 : ∀ q ∈ ([(12, 152)] : List (Nat × Nat)), mjvV mjG mjM "LookAtClockModel" 139 3 yX12_bestOf q.1 q.2 ∨ mjvU mjG mjM "LookAtClockModel" 139 3 yX12_bestOf q.1 q.2 ∨ mjvO mjG mjM "LookAtClockModel" 139 3 yX12_bestOf q.1 q.2 := (List.forall_mem_cons.mpr ⟨Or.inl ⟨(RX12, TX12, 41), cX12_bestOf, 8, (some .int), rfl, tb103, np90, mg692, mg693, mg694, mg664⟩, (fun _ h => nomatch h)⟩)
theorem vt44 : ∀ q ∈ ([(12, 148)] : List (Nat × Nat)), mjvV mjG mjM "LookAtClockModel" 158 1 yX12_isPlanned q.1 q.2 ∨ mjvU mjG mjM "LookAtClockModel" 158 1 yX12_isPlanned q.1 q.2 ∨ mjvO mjG mjM "LookAtClockModel" 158 1 yX12_isPlanned q.1 q.2 := (List.forall_mem_cons.mpr ⟨Or.inl ⟨(RX12, TX12, 41), cX12_isPlanned, 4, (some .boolean), rfl, tb104, np91, mg701, mg702, mg703, mg664⟩, (fun _ h => nomatch h)⟩)
theorem vt45 : ∀ q ∈ ([(12, 151)] : List (Nat × Nat)), mjvV mjG mjM "LookAtClockModel" 170 5 yX12_dayOf q.1 q.2 ∨ mjvU mjG mjM "LookAtClockModel" 170 5 yX12_dayOf q.1 q.2 ∨ mjvO mjG mjM "LookAtClockModel" 170 5 yX12_dayOf q.1 q.2 := (List.forall_mem_cons.mpr ⟨Or.inl ⟨(RX12, TX12, 41), cX12_dayOf, 16, (some .int), rfl, tb107, np94, mg712, mg713, mg714, mg664⟩, (fun _ h => nomatch h)⟩)
theorem vt46 : ∀ q ∈ ([(12, 153)] : List (Nat × Nat)), mjvV mjG mjM "LookAtClockModel" 174 1 yX12_dayOf_ q.1 q.2 ∨ mjvU mjG mjM "LookAtClockModel" 174 1 yX12_dayOf_ q.1 q.2 ∨ mjvO mjG mjM "LookAtClockModel" 174 1 yX12_dayOf_ q.1 q.2 := (List.forall_mem_cons.mpr ⟨Or.inl ⟨(RX12, TX12, 41), cX12_dayOf_, 2, (some .int), rfl, tb108, np95, mg716, mg717, mg718, mg664⟩, (fun _ h => nomatch h)⟩)
theorem vt47 : ∀ q ∈ ([(12, 167)] : List (Nat × Nat)), mjvV mjG mjM "LookAtClockModel" 180 4 yX12_isSold q.1 q.2 ∨ mjvU mjG mjM "LookAtClockModel" 180 4 yX12_isSold q.1 q.2 ∨ mjvO mjG mjM "LookAtClockModel" 180 4 yX12_isSold q.1 q.2 := (List.forall_mem_cons.mpr ⟨Or.inl ⟨(RX12, TX12, 41), cX12_isSold, 5, (some .boolean), rfl, tb110, np97, mg723, mg724, mg725, mg664⟩, (fun _ h => nomatch h)⟩)
theorem vt48 : ∀ q ∈ ([(12, 170)] : List (Nat × Nat)), mjvV mjG mjM "LookAtClockModel" 184 1 yX12_otherPrice q.1 q.2 ∨ mjvU mjG mjM "LookAtClockModel" 184 1 yX12_otherPrice q.1 q.2 ∨ mjvO mjG mjM "LookAtClockModel" 184 1 yX12_otherPrice q.1 q.2 := (List.forall_mem_cons.mpr ⟨Or.inl ⟨(RX12, TX12, 41), cX12_otherPrice, 2, (some .int), rfl, tb111, np98, mg727, mg728, mg729, mg664⟩, (fun _ h => nomatch h)⟩)
theorem vt49 : ∀ q ∈ ([(12, 179)] : List (Nat × Nat)), mjvV mjG mjM "LookAtClockModel" 203 1 yX12_comes_ q.1 q.2 ∨ mjvU mjG mjM "LookAtClockModel" 203 1 yX12_comes_ q.1 q.2 ∨ mjvO mjG mjM "LookAtClockModel" 203 1 yX12_comes_ q.1 q.2 := (List.forall_mem_cons.mpr ⟨Or.inl ⟨(RX12, TX12, 41), cX12_comes_, 2, (some .boolean), rfl, tb112, np99, mg739, mg740, mg741, mg664⟩, (fun _ h => nomatch h)⟩)
theorem vt50 : ∀ q ∈ ([(12, 181)] : List (Nat × Nat)), mjvV mjG mjM "LookAtClockModel" 206 0 yX12_isDigit q.1 q.2 ∨ mjvU mjG mjM "LookAtClockModel" 206 0 yX12_isDigit q.1 q.2 ∨ mjvO mjG mjM "LookAtClockModel" 206 0 yX12_isDigit q.1 q.2 := (List.forall_mem_cons.mpr ⟨Or.inl ⟨(RX12, TX12, 41), cX12_isDigit, 1, (some .boolean), rfl, tb113, np100, mg743, mg744, mg745, mg664⟩, (fun _ h => nomatch h)⟩)
theorem vt51 : ∀ q ∈ ([(12, 182)] : List (Nat × Nat)), mjvV mjG mjM "LookAtClockModel" 210 1 yX12_figures q.1 q.2 ∨ mjvU mjG mjM "LookAtClockModel" 210 1 yX12_figures q.1 q.2 ∨ mjvO mjG mjM "LookAtClockModel" 210 1 yX12_figures q.1 q.2 := (List.forall_mem_cons.mpr ⟨Or.inl ⟨(RX12, TX12, 41), cX12_figures, 4, (some .int), rfl, tb114, np101, mg747, mg748, mg749, mg664⟩, (fun _ h => nomatch h)⟩)
theorem vt52 : ∀ q ∈ ([(12, 180)] : List (Nat × Nat)), mjvV mjG mjM "LookAtClockModel" 213 1 yX12_expect q.1 q.2 ∨ mjvU mjG mjM "LookAtClockModel" 213 1 yX12_expect q.1 q.2 ∨ mjvO mjG mjM "LookAtClockModel" 213 1 yX12_expect q.1 q.2 := (List.forall_mem_cons.mpr ⟨Or.inl ⟨(RX12, TX12, 41), cX12_expect, 2, none, rfl, tb115, np102, mg751, mg752, mg753, mg664⟩, (fun _ h => nomatch h)⟩)
theorem vt53 : ∀ q ∈ ([(12, 183)] : List (Nat × Nat)), mjvV mjG mjM "LookAtClockModel" 217 0 yX12_statement q.1 q.2 ∨ mjvU mjG mjM "LookAtClockModel" 217 0 yX12_statement q.1 q.2 ∨ mjvO mjG mjM "LookAtClockModel" 217 0 yX12_statement q.1 q.2 := (List.forall_mem_cons.mpr ⟨Or.inl ⟨(RX12, TX12, 41), cX12_statement, 4, (some .int), rfl, tb116, np103, mg755, mg756, mg757, mg664⟩, (fun _ h => nomatch h)⟩)
theorem vt54 : ∀ q ∈ ([(12, 184)] : List (Nat × Nat)), mjvV mjG mjM "LookAtClockModel" 221 6 yX12_isAsTold q.1 q.2 ∨ mjvU mjG mjM "LookAtClockModel" 221 6 yX12_isAsTold q.1 q.2 ∨ mjvO mjG mjM "LookAtClockModel" 221 6 yX12_isAsTold q.1 q.2 := (List.forall_mem_cons.mpr ⟨Or.inl ⟨(RX12, TX12, 41), cX12_isAsTold, 7, (some .boolean), rfl, tb117, np104, mg759, mg760, mg761, mg664⟩, (fun _ h => nomatch h)⟩)
theorem vt55 : ∀ q ∈ ([(12, 185)] : List (Nat × Nat)), mjvV mjG mjM "LookAtClockModel" 225 1 yX12_come q.1 q.2 ∨ mjvU mjG mjM "LookAtClockModel" 225 1 yX12_come q.1 q.2 ∨ mjvO mjG mjM "LookAtClockModel" 225 1 yX12_come q.1 q.2 := (List.forall_mem_cons.mpr ⟨Or.inl ⟨(RX12, TX12, 41), cX12_come, 2, none, rfl, tb118, np105, mg763, mg764, mg765, mg664⟩, (fun _ h => nomatch h)⟩)
theorem vt56 : ∀ q ∈ ([(12, 186)] : List (Nat × Nat)), mjvV mjG mjM "LookAtClockModel" 228 0 yX12_read q.1 q.2 ∨ mjvU mjG mjM "LookAtClockModel" 228 0 yX12_read q.1 q.2 ∨ mjvO mjG mjM "LookAtClockModel" 228 0 yX12_read q.1 q.2 := (List.forall_mem_cons.mpr ⟨Or.inl ⟨(RX12, TX12, 41), cX12_read, 9, (some .int), rfl, tb119, np106, mg767, mg768, mg769, mg664⟩, (fun _ h => nomatch h)⟩)
theorem vt57 : ∀ q ∈ ([(12, 194)] : List (Nat × Nat)), mjvV mjG mjM "LookAtClockModel" 234 1 yX12_skillOf q.1 q.2 ∨ mjvU mjG mjM "LookAtClockModel" 234 1 yX12_skillOf q.1 q.2 ∨ mjvO mjG mjM "LookAtClockModel" 234 1 yX12_skillOf q.1 q.2 := (List.forall_mem_cons.mpr ⟨Or.inl ⟨(RX12, TX12, 41), cX12_skillOf, 3, (some .int), rfl, tb120, np107, mg772, mg773, mg774, mg664⟩, (fun _ h => nomatch h)⟩)
