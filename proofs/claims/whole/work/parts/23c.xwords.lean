/-! the words of the methods that throw and catch -/
def mjGX0 : List Cond := [Cond.fieldLink "LookAtClock$Best" 11 "LookAtClock$Best" "figure" "I",
  Cond.sameField "LookAtClock$Best" "LookAtClock$Looker" "figure" "I",
  Cond.fieldLink "LookAtClock$Looker" 15 "LookAtClock$Looker" "figure" "I",
  Cond.fieldLink "LookAtClock$Seller" 17 "LookAtClock$Seller" "figure" "I",
  Cond.sameField "LookAtClock$Seller" "LookAtClock$Looker" "figure" "I",
  Cond.code yX11_refusalOfLooker cX11_refusalOfLooker 2 (some .int),
  Cond.methodLink "LookAtClock" 281 yX11_refusalOfLooker,
  Cond.instanceMethod yX11_refusalOfLooker,
  Cond.selects "LookAtClock" yX11_refusalOfLooker yX11_refusalOfLooker,
  Cond.initialized "LookAtClock",
  Cond.fieldLink "LookAtClock" 45 "LookAtClock" "heldLookers" "[LLookAtClock$Looker;",
  Cond.fieldLink "LookAtClock" 160 "LookAtClock$Looker" "number" "I",
  Cond.code yX4_ownSkill cX4_ownSkill 1 (some .int),
  Cond.code yX0_ownSkill cX0_ownSkill 1 (some .int),
  Cond.methodLink "LookAtClock" 284 yX4_ownSkill,
  Cond.sameMethod "LookAtClock$Looker" "LookAtClock$Looker" "ownSkill" "()I",
  Cond.instanceMethod yX4_ownSkill,
  Cond.selects "LookAtClock$Best" yX4_ownSkill yX0_ownSkill,
  Cond.instanceMethod yX0_ownSkill,
  Cond.initialized "LookAtClock$Best",
  Cond.code yX1_ownSkill cX1_ownSkill 1 (some .int),
  Cond.selects "LookAtClock$Cheap" yX4_ownSkill yX1_ownSkill,
  Cond.instanceMethod yX1_ownSkill,
  Cond.initialized "LookAtClock$Cheap",
  Cond.code yX2_ownSkill cX2_ownSkill 1 (some .int),
  Cond.selects "LookAtClock$Clock" yX4_ownSkill yX2_ownSkill,
  Cond.instanceMethod yX2_ownSkill,
  Cond.initialized "LookAtClock$Clock",
  Cond.selects "LookAtClock$Looker" yX4_ownSkill yX4_ownSkill,
  Cond.initialized "LookAtClock$Looker",
  Cond.code yX5_ownSkill cX5_ownSkill 1 (some .int),
  Cond.selects "LookAtClock$Never" yX4_ownSkill yX5_ownSkill,
  Cond.instanceMethod yX5_ownSkill,
  Cond.initialized "LookAtClock$Never",
  Cond.code yX7_ownSkill cX7_ownSkill 1 (some .int),
  Cond.selects "LookAtClock$Seller" yX4_ownSkill yX7_ownSkill,
  Cond.instanceMethod yX7_ownSkill,
  Cond.initialized "LookAtClock$Seller",
  Cond.code yX8_ownSkill cX8_ownSkill 1 (some .int),
  Cond.selects "LookAtClock$Share" yX4_ownSkill yX8_ownSkill]
def mjGX1 : List Cond := [Cond.instanceMethod yX8_ownSkill,
  Cond.initialized "LookAtClock$Share",
  Cond.code yX9_ownSkill cX9_ownSkill 1 (some .int),
  Cond.selects "LookAtClock$Told" yX4_ownSkill yX9_ownSkill,
  Cond.instanceMethod yX9_ownSkill,
  Cond.initialized "LookAtClock$Told",
  Cond.methodLink "LookAtClock" 235 yX11_isShelf,
  Cond.code yX11_isShelf cX11_isShelf 1 (some .boolean),
  Cond.static yX11_isShelf,
  Cond.code yX11_holdsRow cX11_holdsRow 2 (some .boolean),
  Cond.methodLink "LookAtClock" 255 yX11_holdsRow,
  Cond.instanceMethod yX11_holdsRow,
  Cond.selects "LookAtClock" yX11_holdsRow yX11_holdsRow,
  Cond.fieldLink "LookAtClock" 51 "LookAtClock" "heldRows" "[LLookAtClock$Row;",
  Cond.code yX6_hasPlace cX6_hasPlace 2 (some .boolean),
  Cond.methodLink "LookAtClock" 242 yX6_hasPlace,
  Cond.instanceMethod yX6_hasPlace,
  Cond.selects "LookAtClock$Row" yX6_hasPlace yX6_hasPlace,
  Cond.initialized "LookAtClock$Row",
  Cond.code yX6_valueAt cX6_valueAt 2 (some .int),
  Cond.methodLink "LookAtClock" 76 yX6_valueAt,
  Cond.instanceMethod yX6_valueAt,
  Cond.selects "LookAtClock$Row" yX6_valueAt yX6_valueAt,
  Cond.classLink "LookAtClock$Best" 17 "java/lang/UnsupportedOperationException",
  Cond.initialized "java/lang/UnsupportedOperationException",
  Cond.classLink "LookAtClock$Looker" 24 "java/lang/IllegalStateException",
  Cond.initialized "java/lang/IllegalStateException",
  Cond.classLink "LookAtClock$Seller" 23 "java/lang/IllegalArgumentException",
  Cond.initialized "java/lang/IllegalArgumentException",
  Cond.classLink "LookAtClock" 248 "java/lang/IllegalArgumentException",
  Cond.classLink "LookAtClock" 258 "java/lang/IllegalStateException",
  Cond.classLink "LookAtClock" 290 "java/lang/UnsupportedOperationException",
  Cond.classLink "LookAtClockLaw" 13 "java/lang/IllegalArgumentException",
  Cond.classLink "LookAtClockLaw" 15 "java/lang/IllegalStateException",
  Cond.methodLink "LookAtClock" 287 yX4_fail,
  Cond.methodLink "LookAtClockLaw" 7 yX11_element,
  Cond.methodLink "LookAtClockLaw" 180 yX11_toss,
  Cond.methodLink "LookAtClockLaw" 162 yL_element,
  Cond.instanceMethod yX0_fail,
  Cond.instanceMethod yX4_fail]
def mjGX2 : List Cond := [Cond.instanceMethod yX7_fail,
  Cond.instanceMethod yX9_fail,
  Cond.instanceMethod yX11_toss,
  Cond.instanceMethod yX11_element,
  Cond.static yL_element,
  Cond.sameMethod "LookAtClock$Looker" "LookAtClock$Looker" "fail" "()V",
  Cond.selects "LookAtClock$Best" yX4_fail yX0_fail,
  Cond.selects "LookAtClock$Cheap" yX4_fail yX4_fail,
  Cond.selects "LookAtClock$Clock" yX4_fail yX4_fail,
  Cond.selects "LookAtClock$Looker" yX4_fail yX4_fail,
  Cond.selects "LookAtClock$Never" yX4_fail yX4_fail,
  Cond.selects "LookAtClock$Seller" yX4_fail yX7_fail,
  Cond.selects "LookAtClock$Share" yX4_fail yX4_fail,
  Cond.selects "LookAtClock$Told" yX4_fail yX9_fail,
  Cond.selects "LookAtClock" yX11_element yX11_element,
  Cond.selects "LookAtClock" yX11_toss yX11_toss,
  Cond.initialized "LookAtClockLaw"]
def mjGXw : List Cond := mjGX0 ++ (mjGX1 ++ (mjGX2))
theorem wx0 : Cond.fieldLink "LookAtClock$Best" 11 "LookAtClock$Best" "figure" "I" ∈ mjGXw := List.mem_append_left _ (List.mem_of_getElem? (i := 0) rfl)
theorem wx1 : Cond.sameField "LookAtClock$Best" "LookAtClock$Looker" "figure" "I" ∈ mjGXw := List.mem_append_left _ (List.mem_of_getElem? (i := 1) rfl)
theorem wx2 : Cond.fieldLink "LookAtClock$Looker" 15 "LookAtClock$Looker" "figure" "I" ∈ mjGXw := List.mem_append_left _ (List.mem_of_getElem? (i := 2) rfl)
theorem wx3 : Cond.fieldLink "LookAtClock$Seller" 17 "LookAtClock$Seller" "figure" "I" ∈ mjGXw := List.mem_append_left _ (List.mem_of_getElem? (i := 3) rfl)
theorem wx4 : Cond.sameField "LookAtClock$Seller" "LookAtClock$Looker" "figure" "I" ∈ mjGXw := List.mem_append_left _ (List.mem_of_getElem? (i := 4) rfl)
theorem wx5 : Cond.code yX11_refusalOfLooker cX11_refusalOfLooker 2 (some .int) ∈ mjGXw := List.mem_append_left _ (List.mem_of_getElem? (i := 5) rfl)
theorem wx6 : Cond.methodLink "LookAtClock" 281 yX11_refusalOfLooker ∈ mjGXw := List.mem_append_left _ (List.mem_of_getElem? (i := 6) rfl)
theorem wx7 : Cond.instanceMethod yX11_refusalOfLooker ∈ mjGXw := List.mem_append_left _ (List.mem_of_getElem? (i := 7) rfl)
theorem wx8 : Cond.selects "LookAtClock" yX11_refusalOfLooker yX11_refusalOfLooker ∈ mjGXw := List.mem_append_left _ (List.mem_of_getElem? (i := 8) rfl)
theorem wx9 : Cond.initialized "LookAtClock" ∈ mjGXw := List.mem_append_left _ (List.mem_of_getElem? (i := 9) rfl)
theorem wx10 : Cond.fieldLink "LookAtClock" 45 "LookAtClock" "heldLookers" "[LLookAtClock$Looker;" ∈ mjGXw := List.mem_append_left _ (List.mem_of_getElem? (i := 10) rfl)
theorem wx11 : Cond.fieldLink "LookAtClock" 160 "LookAtClock$Looker" "number" "I" ∈ mjGXw := List.mem_append_left _ (List.mem_of_getElem? (i := 11) rfl)
theorem wx12 : Cond.code yX4_ownSkill cX4_ownSkill 1 (some .int) ∈ mjGXw := List.mem_append_left _ (List.mem_of_getElem? (i := 12) rfl)
theorem wx13 : Cond.code yX0_ownSkill cX0_ownSkill 1 (some .int) ∈ mjGXw := List.mem_append_left _ (List.mem_of_getElem? (i := 13) rfl)
theorem wx14 : Cond.methodLink "LookAtClock" 284 yX4_ownSkill ∈ mjGXw := List.mem_append_left _ (List.mem_of_getElem? (i := 14) rfl)
theorem wx15 : Cond.sameMethod "LookAtClock$Looker" "LookAtClock$Looker" "ownSkill" "()I" ∈ mjGXw := List.mem_append_left _ (List.mem_of_getElem? (i := 15) rfl)
theorem wx16 : Cond.instanceMethod yX4_ownSkill ∈ mjGXw := List.mem_append_left _ (List.mem_of_getElem? (i := 16) rfl)
theorem wx17 : Cond.selects "LookAtClock$Best" yX4_ownSkill yX0_ownSkill ∈ mjGXw := List.mem_append_left _ (List.mem_of_getElem? (i := 17) rfl)
theorem wx18 : Cond.instanceMethod yX0_ownSkill ∈ mjGXw := List.mem_append_left _ (List.mem_of_getElem? (i := 18) rfl)
theorem wx19 : Cond.initialized "LookAtClock$Best" ∈ mjGXw := List.mem_append_left _ (List.mem_of_getElem? (i := 19) rfl)
theorem wx20 : Cond.code yX1_ownSkill cX1_ownSkill 1 (some .int) ∈ mjGXw := List.mem_append_left _ (List.mem_of_getElem? (i := 20) rfl)
theorem wx21 : Cond.selects "LookAtClock$Cheap" yX4_ownSkill yX1_ownSkill ∈ mjGXw := List.mem_append_left _ (List.mem_of_getElem? (i := 21) rfl)
theorem wx22 : Cond.instanceMethod yX1_ownSkill ∈ mjGXw := List.mem_append_left _ (List.mem_of_getElem? (i := 22) rfl)
theorem wx23 : Cond.initialized "LookAtClock$Cheap" ∈ mjGXw := List.mem_append_left _ (List.mem_of_getElem? (i := 23) rfl)
theorem wx24 : Cond.code yX2_ownSkill cX2_ownSkill 1 (some .int) ∈ mjGXw := List.mem_append_left _ (List.mem_of_getElem? (i := 24) rfl)
theorem wx25 : Cond.selects "LookAtClock$Clock" yX4_ownSkill yX2_ownSkill ∈ mjGXw := List.mem_append_left _ (List.mem_of_getElem? (i := 25) rfl)
theorem wx26 : Cond.instanceMethod yX2_ownSkill ∈ mjGXw := List.mem_append_left _ (List.mem_of_getElem? (i := 26) rfl)
theorem wx27 : Cond.initialized "LookAtClock$Clock" ∈ mjGXw := List.mem_append_left _ (List.mem_of_getElem? (i := 27) rfl)
theorem wx28 : Cond.selects "LookAtClock$Looker" yX4_ownSkill yX4_ownSkill ∈ mjGXw := List.mem_append_left _ (List.mem_of_getElem? (i := 28) rfl)
theorem wx29 : Cond.initialized "LookAtClock$Looker" ∈ mjGXw := List.mem_append_left _ (List.mem_of_getElem? (i := 29) rfl)
theorem wx30 : Cond.code yX5_ownSkill cX5_ownSkill 1 (some .int) ∈ mjGXw := List.mem_append_left _ (List.mem_of_getElem? (i := 30) rfl)
theorem wx31 : Cond.selects "LookAtClock$Never" yX4_ownSkill yX5_ownSkill ∈ mjGXw := List.mem_append_left _ (List.mem_of_getElem? (i := 31) rfl)
theorem wx32 : Cond.instanceMethod yX5_ownSkill ∈ mjGXw := List.mem_append_left _ (List.mem_of_getElem? (i := 32) rfl)
theorem wx33 : Cond.initialized "LookAtClock$Never" ∈ mjGXw := List.mem_append_left _ (List.mem_of_getElem? (i := 33) rfl)
theorem wx34 : Cond.code yX7_ownSkill cX7_ownSkill 1 (some .int) ∈ mjGXw := List.mem_append_left _ (List.mem_of_getElem? (i := 34) rfl)
theorem wx35 : Cond.selects "LookAtClock$Seller" yX4_ownSkill yX7_ownSkill ∈ mjGXw := List.mem_append_left _ (List.mem_of_getElem? (i := 35) rfl)
theorem wx36 : Cond.instanceMethod yX7_ownSkill ∈ mjGXw := List.mem_append_left _ (List.mem_of_getElem? (i := 36) rfl)
theorem wx37 : Cond.initialized "LookAtClock$Seller" ∈ mjGXw := List.mem_append_left _ (List.mem_of_getElem? (i := 37) rfl)
theorem wx38 : Cond.code yX8_ownSkill cX8_ownSkill 1 (some .int) ∈ mjGXw := List.mem_append_left _ (List.mem_of_getElem? (i := 38) rfl)
theorem wx39 : Cond.selects "LookAtClock$Share" yX4_ownSkill yX8_ownSkill ∈ mjGXw := List.mem_append_left _ (List.mem_of_getElem? (i := 39) rfl)
theorem wx40 : Cond.instanceMethod yX8_ownSkill ∈ mjGXw := List.mem_append_right _ (List.mem_append_left _ (List.mem_of_getElem? (i := 0) rfl))
theorem wx41 : Cond.initialized "LookAtClock$Share" ∈ mjGXw := List.mem_append_right _ (List.mem_append_left _ (List.mem_of_getElem? (i := 1) rfl))
theorem wx42 : Cond.code yX9_ownSkill cX9_ownSkill 1 (some .int) ∈ mjGXw := List.mem_append_right _ (List.mem_append_left _ (List.mem_of_getElem? (i := 2) rfl))
theorem wx43 : Cond.selects "LookAtClock$Told" yX4_ownSkill yX9_ownSkill ∈ mjGXw := List.mem_append_right _ (List.mem_append_left _ (List.mem_of_getElem? (i := 3) rfl))
theorem wx44 : Cond.instanceMethod yX9_ownSkill ∈ mjGXw := List.mem_append_right _ (List.mem_append_left _ (List.mem_of_getElem? (i := 4) rfl))
theorem wx45 : Cond.initialized "LookAtClock$Told" ∈ mjGXw := List.mem_append_right _ (List.mem_append_left _ (List.mem_of_getElem? (i := 5) rfl))
theorem wx46 : Cond.methodLink "LookAtClock" 235 yX11_isShelf ∈ mjGXw := List.mem_append_right _ (List.mem_append_left _ (List.mem_of_getElem? (i := 6) rfl))
theorem wx47 : Cond.code yX11_isShelf cX11_isShelf 1 (some .boolean) ∈ mjGXw := List.mem_append_right _ (List.mem_append_left _ (List.mem_of_getElem? (i := 7) rfl))
theorem wx48 : Cond.static yX11_isShelf ∈ mjGXw := List.mem_append_right _ (List.mem_append_left _ (List.mem_of_getElem? (i := 8) rfl))
theorem wx49 : Cond.code yX11_holdsRow cX11_holdsRow 2 (some .boolean) ∈ mjGXw := List.mem_append_right _ (List.mem_append_left _ (List.mem_of_getElem? (i := 9) rfl))
theorem wx50 : Cond.methodLink "LookAtClock" 255 yX11_holdsRow ∈ mjGXw := List.mem_append_right _ (List.mem_append_left _ (List.mem_of_getElem? (i := 10) rfl))
theorem wx51 : Cond.instanceMethod yX11_holdsRow ∈ mjGXw := List.mem_append_right _ (List.mem_append_left _ (List.mem_of_getElem? (i := 11) rfl))
theorem wx52 : Cond.selects "LookAtClock" yX11_holdsRow yX11_holdsRow ∈ mjGXw := List.mem_append_right _ (List.mem_append_left _ (List.mem_of_getElem? (i := 12) rfl))
theorem wx53 : Cond.fieldLink "LookAtClock" 51 "LookAtClock" "heldRows" "[LLookAtClock$Row;" ∈ mjGXw := List.mem_append_right _ (List.mem_append_left _ (List.mem_of_getElem? (i := 13) rfl))
theorem wx54 : Cond.code yX6_hasPlace cX6_hasPlace 2 (some .boolean) ∈ mjGXw := List.mem_append_right _ (List.mem_append_left _ (List.mem_of_getElem? (i := 14) rfl))
theorem wx55 : Cond.methodLink "LookAtClock" 242 yX6_hasPlace ∈ mjGXw := List.mem_append_right _ (List.mem_append_left _ (List.mem_of_getElem? (i := 15) rfl))
theorem wx56 : Cond.instanceMethod yX6_hasPlace ∈ mjGXw := List.mem_append_right _ (List.mem_append_left _ (List.mem_of_getElem? (i := 16) rfl))
theorem wx57 : Cond.selects "LookAtClock$Row" yX6_hasPlace yX6_hasPlace ∈ mjGXw := List.mem_append_right _ (List.mem_append_left _ (List.mem_of_getElem? (i := 17) rfl))
theorem wx58 : Cond.initialized "LookAtClock$Row" ∈ mjGXw := List.mem_append_right _ (List.mem_append_left _ (List.mem_of_getElem? (i := 18) rfl))
theorem wx59 : Cond.code yX6_valueAt cX6_valueAt 2 (some .int) ∈ mjGXw := List.mem_append_right _ (List.mem_append_left _ (List.mem_of_getElem? (i := 19) rfl))
theorem wx60 : Cond.methodLink "LookAtClock" 76 yX6_valueAt ∈ mjGXw := List.mem_append_right _ (List.mem_append_left _ (List.mem_of_getElem? (i := 20) rfl))
theorem wx61 : Cond.instanceMethod yX6_valueAt ∈ mjGXw := List.mem_append_right _ (List.mem_append_left _ (List.mem_of_getElem? (i := 21) rfl))
theorem wx62 : Cond.selects "LookAtClock$Row" yX6_valueAt yX6_valueAt ∈ mjGXw := List.mem_append_right _ (List.mem_append_left _ (List.mem_of_getElem? (i := 22) rfl))
theorem wx63 : Cond.classLink "LookAtClock$Best" 17 "java/lang/UnsupportedOperationException" ∈ mjGXw := List.mem_append_right _ (List.mem_append_left _ (List.mem_of_getElem? (i := 23) rfl))
theorem wx64 : Cond.initialized "java/lang/UnsupportedOperationException" ∈ mjGXw := List.mem_append_right _ (List.mem_append_left _ (List.mem_of_getElem? (i := 24) rfl))
theorem wx65 : Cond.classLink "LookAtClock$Looker" 24 "java/lang/IllegalStateException" ∈ mjGXw := List.mem_append_right _ (List.mem_append_left _ (List.mem_of_getElem? (i := 25) rfl))
theorem wx66 : Cond.initialized "java/lang/IllegalStateException" ∈ mjGXw := List.mem_append_right _ (List.mem_append_left _ (List.mem_of_getElem? (i := 26) rfl))
theorem wx67 : Cond.classLink "LookAtClock$Seller" 23 "java/lang/IllegalArgumentException" ∈ mjGXw := List.mem_append_right _ (List.mem_append_left _ (List.mem_of_getElem? (i := 27) rfl))
theorem wx68 : Cond.initialized "java/lang/IllegalArgumentException" ∈ mjGXw := List.mem_append_right _ (List.mem_append_left _ (List.mem_of_getElem? (i := 28) rfl))
theorem wx69 : Cond.classLink "LookAtClock" 248 "java/lang/IllegalArgumentException" ∈ mjGXw := List.mem_append_right _ (List.mem_append_left _ (List.mem_of_getElem? (i := 29) rfl))
theorem wx70 : Cond.classLink "LookAtClock" 258 "java/lang/IllegalStateException" ∈ mjGXw := List.mem_append_right _ (List.mem_append_left _ (List.mem_of_getElem? (i := 30) rfl))
theorem wx71 : Cond.classLink "LookAtClock" 290 "java/lang/UnsupportedOperationException" ∈ mjGXw := List.mem_append_right _ (List.mem_append_left _ (List.mem_of_getElem? (i := 31) rfl))
theorem wx72 : Cond.classLink "LookAtClockLaw" 13 "java/lang/IllegalArgumentException" ∈ mjGXw := List.mem_append_right _ (List.mem_append_left _ (List.mem_of_getElem? (i := 32) rfl))
theorem wx73 : Cond.classLink "LookAtClockLaw" 15 "java/lang/IllegalStateException" ∈ mjGXw := List.mem_append_right _ (List.mem_append_left _ (List.mem_of_getElem? (i := 33) rfl))
theorem wx74 : Cond.methodLink "LookAtClock" 287 yX4_fail ∈ mjGXw := List.mem_append_right _ (List.mem_append_left _ (List.mem_of_getElem? (i := 34) rfl))
theorem wx75 : Cond.methodLink "LookAtClockLaw" 7 yX11_element ∈ mjGXw := List.mem_append_right _ (List.mem_append_left _ (List.mem_of_getElem? (i := 35) rfl))
theorem wx76 : Cond.methodLink "LookAtClockLaw" 180 yX11_toss ∈ mjGXw := List.mem_append_right _ (List.mem_append_left _ (List.mem_of_getElem? (i := 36) rfl))
theorem wx77 : Cond.methodLink "LookAtClockLaw" 162 yL_element ∈ mjGXw := List.mem_append_right _ (List.mem_append_left _ (List.mem_of_getElem? (i := 37) rfl))
theorem wx78 : Cond.instanceMethod yX0_fail ∈ mjGXw := List.mem_append_right _ (List.mem_append_left _ (List.mem_of_getElem? (i := 38) rfl))
theorem wx79 : Cond.instanceMethod yX4_fail ∈ mjGXw := List.mem_append_right _ (List.mem_append_left _ (List.mem_of_getElem? (i := 39) rfl))
theorem wx80 : Cond.instanceMethod yX7_fail ∈ mjGXw := List.mem_append_right _ (List.mem_append_right _ (List.mem_of_getElem? (i := 0) rfl))
theorem wx81 : Cond.instanceMethod yX9_fail ∈ mjGXw := List.mem_append_right _ (List.mem_append_right _ (List.mem_of_getElem? (i := 1) rfl))
theorem wx82 : Cond.instanceMethod yX11_toss ∈ mjGXw := List.mem_append_right _ (List.mem_append_right _ (List.mem_of_getElem? (i := 2) rfl))
theorem wx83 : Cond.instanceMethod yX11_element ∈ mjGXw := List.mem_append_right _ (List.mem_append_right _ (List.mem_of_getElem? (i := 3) rfl))
theorem wx84 : Cond.static yL_element ∈ mjGXw := List.mem_append_right _ (List.mem_append_right _ (List.mem_of_getElem? (i := 4) rfl))
theorem wx85 : Cond.sameMethod "LookAtClock$Looker" "LookAtClock$Looker" "fail" "()V" ∈ mjGXw := List.mem_append_right _ (List.mem_append_right _ (List.mem_of_getElem? (i := 5) rfl))
theorem wx86 : Cond.selects "LookAtClock$Best" yX4_fail yX0_fail ∈ mjGXw := List.mem_append_right _ (List.mem_append_right _ (List.mem_of_getElem? (i := 6) rfl))
theorem wx87 : Cond.selects "LookAtClock$Cheap" yX4_fail yX4_fail ∈ mjGXw := List.mem_append_right _ (List.mem_append_right _ (List.mem_of_getElem? (i := 7) rfl))
theorem wx88 : Cond.selects "LookAtClock$Clock" yX4_fail yX4_fail ∈ mjGXw := List.mem_append_right _ (List.mem_append_right _ (List.mem_of_getElem? (i := 8) rfl))
theorem wx89 : Cond.selects "LookAtClock$Looker" yX4_fail yX4_fail ∈ mjGXw := List.mem_append_right _ (List.mem_append_right _ (List.mem_of_getElem? (i := 9) rfl))
theorem wx90 : Cond.selects "LookAtClock$Never" yX4_fail yX4_fail ∈ mjGXw := List.mem_append_right _ (List.mem_append_right _ (List.mem_of_getElem? (i := 10) rfl))
theorem wx91 : Cond.selects "LookAtClock$Seller" yX4_fail yX7_fail ∈ mjGXw := List.mem_append_right _ (List.mem_append_right _ (List.mem_of_getElem? (i := 11) rfl))
theorem wx92 : Cond.selects "LookAtClock$Share" yX4_fail yX4_fail ∈ mjGXw := List.mem_append_right _ (List.mem_append_right _ (List.mem_of_getElem? (i := 12) rfl))
theorem wx93 : Cond.selects "LookAtClock$Told" yX4_fail yX9_fail ∈ mjGXw := List.mem_append_right _ (List.mem_append_right _ (List.mem_of_getElem? (i := 13) rfl))
theorem wx94 : Cond.selects "LookAtClock" yX11_element yX11_element ∈ mjGXw := List.mem_append_right _ (List.mem_append_right _ (List.mem_of_getElem? (i := 14) rfl))
theorem wx95 : Cond.selects "LookAtClock" yX11_toss yX11_toss ∈ mjGXw := List.mem_append_right _ (List.mem_append_right _ (List.mem_of_getElem? (i := 15) rfl))
theorem wx96 : Cond.initialized "LookAtClockLaw" ∈ mjGXw := List.mem_append_right _ (List.mem_append_right _ (List.mem_of_getElem? (i := 16) rfl))
theorem mjGXw_all : mjGXw.all goodWord = true := by decide +kernel
theorem fx0 : mjfok [0, 1, 2, 4, 5, 7, 8, 9] 1 false "LookAtClock$Looker" "figure" "I" = true := by decide +kernel
theorem fx1 : mjfok [11] 8 true "LookAtClock" "heldLookers" "[LLookAtClock$Looker;" = true := by decide +kernel
theorem fx2 : mjfok [0, 1, 2, 4, 5, 7, 8, 9] 0 false "LookAtClock$Looker" "number" "I" = true := by decide +kernel
theorem fx3 : mjfok [11] 9 true "LookAtClock" "heldRows" "[LLookAtClock$Row;" = true := by decide +kernel
theorem nx0 : "LookAtClock" = "LookAtClock" ∧ "LookAtClock" ≠ "java/lang/invoke/MethodHandle" ∧ "LookAtClock" ≠ "java/lang/invoke/VarHandle" ∧ (parseMethodDescriptor "(I)I").map (fun d => d.parameters.length) = some 1 := by decide +kernel
theorem nx1 : "LookAtClock$Looker" ≠ "java/lang/invoke/MethodHandle" ∧ "LookAtClock$Looker" ≠ "java/lang/invoke/VarHandle" ∧ (parseMethodDescriptor "()I").map (fun d => d.parameters.length) = some 0 := by decide +kernel
theorem nx2 : "LookAtClock$Looker" = "LookAtClock$Looker" ∧ "LookAtClock$Looker" ≠ "java/lang/invoke/MethodHandle" ∧ "LookAtClock$Looker" ≠ "java/lang/invoke/VarHandle" ∧ (parseMethodDescriptor "()I").map (fun d => d.parameters.length) = some 0 := by decide +kernel
theorem nx3 : "LookAtClock" ≠ "java/lang/invoke/MethodHandle" ∧ "LookAtClock" ≠ "java/lang/invoke/VarHandle" ∧ (parseMethodDescriptor "(I)Z").map (fun d => d.parameters.length) = some 1 := by decide +kernel
theorem nx4 : "LookAtClock" = "LookAtClock" ∧ "LookAtClock" ≠ "java/lang/invoke/MethodHandle" ∧ "LookAtClock" ≠ "java/lang/invoke/VarHandle" ∧ (parseMethodDescriptor "(I)Z").map (fun d => d.parameters.length) = some 1 := by decide +kernel
theorem nx5 : "LookAtClock$Row" = "LookAtClock$Row" ∧ "LookAtClock$Row" ≠ "java/lang/invoke/MethodHandle" ∧ "LookAtClock$Row" ≠ "java/lang/invoke/VarHandle" ∧ (parseMethodDescriptor "(I)Z").map (fun d => d.parameters.length) = some 1 := by decide +kernel
theorem nx6 : "LookAtClock$Row" = "LookAtClock$Row" ∧ "LookAtClock$Row" ≠ "java/lang/invoke/MethodHandle" ∧ "LookAtClock$Row" ≠ "java/lang/invoke/VarHandle" ∧ (parseMethodDescriptor "(I)I").map (fun d => d.parameters.length) = some 1 := by decide +kernel
theorem tx0 {G : List Cond} (hs : ∀ w ∈ mjGXw, w ∈ G) : mjtb G mjM 129 2 yX11_refusalOfLooker cX11_refusalOfLooker 2 (some .int) := ⟨rfl, (hs _ wx5), by decide, by decide⟩
theorem tx1 {G : List Cond} (hs : ∀ w ∈ mjGXw, w ∈ G) : mjtb G mjM 16 1 yX0_ownSkill cX0_ownSkill 1 (some .int) := ⟨rfl, (hs _ wx13), by decide, by decide⟩
theorem tx2 {G : List Cond} (hs : ∀ w ∈ mjGXw, w ∈ G) : mjtb G mjM 22 1 yX1_ownSkill cX1_ownSkill 1 (some .int) := ⟨rfl, (hs _ wx20), by decide, by decide⟩
theorem tx3 {G : List Cond} (hs : ∀ w ∈ mjGXw, w ∈ G) : mjtb G mjM 15 1 yX2_ownSkill cX2_ownSkill 1 (some .int) := ⟨rfl, (hs _ wx24), by decide, by decide⟩
theorem tx4 {G : List Cond} (hs : ∀ w ∈ mjGXw, w ∈ G) : mjtb G mjM 14 1 yX4_ownSkill cX4_ownSkill 1 (some .int) := ⟨rfl, (hs _ wx12), by decide, by decide⟩
theorem tx5 {G : List Cond} (hs : ∀ w ∈ mjGXw, w ∈ G) : mjtb G mjM 49 1 yX5_ownSkill cX5_ownSkill 1 (some .int) := ⟨rfl, (hs _ wx30), by decide, by decide⟩
theorem tx6 {G : List Cond} (hs : ∀ w ∈ mjGXw, w ∈ G) : mjtb G mjM 59 1 yX7_ownSkill cX7_ownSkill 1 (some .int) := ⟨rfl, (hs _ wx34), by decide, by decide⟩
theorem tx7 {G : List Cond} (hs : ∀ w ∈ mjGXw, w ∈ G) : mjtb G mjM 62 1 yX8_ownSkill cX8_ownSkill 1 (some .int) := ⟨rfl, (hs _ wx38), by decide, by decide⟩
theorem tx8 {G : List Cond} (hs : ∀ w ∈ mjGXw, w ∈ G) : mjtb G mjM 65 1 yX9_ownSkill cX9_ownSkill 1 (some .int) := ⟨rfl, (hs _ wx42), by decide, by decide⟩
theorem tx9 {G : List Cond} (hs : ∀ w ∈ mjGXw, w ∈ G) : mjtb G mjM 77 1 yX11_isShelf cX11_isShelf 1 (some .boolean) := ⟨rfl, (hs _ wx47), by decide, by decide⟩
theorem tx10 {G : List Cond} (hs : ∀ w ∈ mjGXw, w ∈ G) : mjtb G mjM 197 2 yX11_holdsRow cX11_holdsRow 2 (some .boolean) := ⟨rfl, (hs _ wx49), by decide, by decide⟩
theorem tx11 {G : List Cond} (hs : ∀ w ∈ mjGXw, w ∈ G) : mjtb G mjM 52 2 yX6_hasPlace cX6_hasPlace 2 (some .boolean) := ⟨rfl, (hs _ wx54), by decide, by decide⟩
theorem tx12 {G : List Cond} (hs : ∀ w ∈ mjGXw, w ∈ G) : mjtb G mjM 54 2 yX6_valueAt cX6_valueAt 2 (some .int) := ⟨rfl, (hs _ wx59), by decide, by decide⟩
theorem vx9_0 {G : List Cond} (hs : ∀ w ∈ mjGXw, w ∈ G) : ∀ q ∈ ([(11, 129)] : List (Nat × Nat)), mjvV G mjM "LookAtClock" 281 1 yX11_refusalOfLooker q.1 q.2 ∨ mjvU G mjM "LookAtClock" 281 1 yX11_refusalOfLooker q.1 q.2 ∨ mjvO G mjM "LookAtClock" 281 1 yX11_refusalOfLooker q.1 q.2 := (List.forall_mem_cons.mpr ⟨Or.inl ⟨(RX11, TX11, 10), cX11_refusalOfLooker, 2, (some .int), rfl, (tx0 hs), nx0, (hs _ wx6), (hs _ wx7), (hs _ wx8), (hs _ wx9)⟩, (fun _ h => nomatch h)⟩)
theorem vx9_1 {G : List Cond} (hs : ∀ w ∈ mjGXw, w ∈ G) : ∀ q ∈ ([(0, 16), (1, 22), (2, 15), (4, 14), (5, 49), (7, 59), (8, 62), (9, 65)] : List (Nat × Nat)), mjvV G mjM "LookAtClock" 284 0 yX4_ownSkill q.1 q.2 ∨ mjvU G mjM "LookAtClock" 284 0 yX4_ownSkill q.1 q.2 ∨ mjvO G mjM "LookAtClock" 284 0 yX4_ownSkill q.1 q.2 := (List.forall_mem_cons.mpr ⟨Or.inr (Or.inr ⟨(RX0, TX0, 4), "LookAtClock$Looker", yX0_ownSkill, cX0_ownSkill, 1, (some .int), _, _, _, rfl, (tx1 hs), nx1, (hs _ wx12), (hs _ wx14), (hs _ wx15), (hs _ wx16), (hs _ wx17), (hs _ wx18), (hs _ wx19)⟩), (List.forall_mem_cons.mpr ⟨Or.inr (Or.inr ⟨(RX1, TX1, 4), "LookAtClock$Looker", yX1_ownSkill, cX1_ownSkill, 1, (some .int), _, _, _, rfl, (tx2 hs), nx1, (hs _ wx12), (hs _ wx14), (hs _ wx15), (hs _ wx16), (hs _ wx21), (hs _ wx22), (hs _ wx23)⟩), (List.forall_mem_cons.mpr ⟨Or.inr (Or.inr ⟨(RX2, TX2, 4), "LookAtClock$Looker", yX2_ownSkill, cX2_ownSkill, 1, (some .int), _, _, _, rfl, (tx3 hs), nx1, (hs _ wx12), (hs _ wx14), (hs _ wx15), (hs _ wx16), (hs _ wx25), (hs _ wx26), (hs _ wx27)⟩), (List.forall_mem_cons.mpr ⟨Or.inl ⟨(RX4, TX4, 4), cX4_ownSkill, 1, (some .int), rfl, (tx4 hs), nx2, (hs _ wx14), (hs _ wx16), (hs _ wx28), (hs _ wx29)⟩, (List.forall_mem_cons.mpr ⟨Or.inr (Or.inr ⟨(RX5, TX5, 4), "LookAtClock$Looker", yX5_ownSkill, cX5_ownSkill, 1, (some .int), _, _, _, rfl, (tx5 hs), nx1, (hs _ wx12), (hs _ wx14), (hs _ wx15), (hs _ wx16), (hs _ wx31), (hs _ wx32), (hs _ wx33)⟩), (List.forall_mem_cons.mpr ⟨Or.inr (Or.inr ⟨(RX7, TX7, 4), "LookAtClock$Looker", yX7_ownSkill, cX7_ownSkill, 1, (some .int), _, _, _, rfl, (tx6 hs), nx1, (hs _ wx12), (hs _ wx14), (hs _ wx15), (hs _ wx16), (hs _ wx35), (hs _ wx36), (hs _ wx37)⟩), (List.forall_mem_cons.mpr ⟨Or.inr (Or.inr ⟨(RX8, TX8, 4), "LookAtClock$Looker", yX8_ownSkill, cX8_ownSkill, 1, (some .int), _, _, _, rfl, (tx7 hs), nx1, (hs _ wx12), (hs _ wx14), (hs _ wx15), (hs _ wx16), (hs _ wx39), (hs _ wx40), (hs _ wx41)⟩), (List.forall_mem_cons.mpr ⟨Or.inr (Or.inr ⟨(RX9, TX9, 4), "LookAtClock$Looker", yX9_ownSkill, cX9_ownSkill, 1, (some .int), _, _, _, rfl, (tx8 hs), nx1, (hs _ wx12), (hs _ wx14), (hs _ wx15), (hs _ wx16), (hs _ wx43), (hs _ wx44), (hs _ wx45)⟩), (fun _ h => nomatch h)⟩)⟩)⟩)⟩)⟩)⟩)⟩)⟩)
theorem vx9_2 {G : List Cond} (hs : ∀ w ∈ mjGXw, w ∈ G) : ∀ q ∈ ([(11, 197)] : List (Nat × Nat)), mjvV G mjM "LookAtClock" 255 1 yX11_holdsRow q.1 q.2 ∨ mjvU G mjM "LookAtClock" 255 1 yX11_holdsRow q.1 q.2 ∨ mjvO G mjM "LookAtClock" 255 1 yX11_holdsRow q.1 q.2 := (List.forall_mem_cons.mpr ⟨Or.inl ⟨(RX11, TX11, 10), cX11_holdsRow, 2, (some .boolean), rfl, (tx10 hs), nx4, (hs _ wx50), (hs _ wx51), (hs _ wx52), (hs _ wx9)⟩, (fun _ h => nomatch h)⟩)
theorem vx9_3 {G : List Cond} (hs : ∀ w ∈ mjGXw, w ∈ G) : ∀ q ∈ ([(6, 52)] : List (Nat × Nat)), mjvV G mjM "LookAtClock" 242 1 yX6_hasPlace q.1 q.2 ∨ mjvU G mjM "LookAtClock" 242 1 yX6_hasPlace q.1 q.2 ∨ mjvO G mjM "LookAtClock" 242 1 yX6_hasPlace q.1 q.2 := (List.forall_mem_cons.mpr ⟨Or.inl ⟨(RX6, TX6, 3), cX6_hasPlace, 2, (some .boolean), rfl, (tx11 hs), nx5, (hs _ wx55), (hs _ wx56), (hs _ wx57), (hs _ wx58)⟩, (fun _ h => nomatch h)⟩)
theorem vx9_4 {G : List Cond} (hs : ∀ w ∈ mjGXw, w ∈ G) : ∀ q ∈ ([(6, 54)] : List (Nat × Nat)), mjvV G mjM "LookAtClock" 76 1 yX6_valueAt q.1 q.2 ∨ mjvU G mjM "LookAtClock" 76 1 yX6_valueAt q.1 q.2 ∨ mjvO G mjM "LookAtClock" 76 1 yX6_valueAt q.1 q.2 := (List.forall_mem_cons.mpr ⟨Or.inl ⟨(RX6, TX6, 3), cX6_valueAt, 2, (some .int), rfl, (tx12 hs), nx6, (hs _ wx60), (hs _ wx61), (hs _ wx62), (hs _ wx58)⟩, (fun _ h => nomatch h)⟩)
