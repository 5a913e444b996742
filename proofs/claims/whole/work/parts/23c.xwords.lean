/-! the words of the methods that throw and catch -/
def mjGX0 : List Cond := [Cond.classLink "LookAtClockLaw" 8 "LookAtClock",
  Cond.instantiable "LookAtClock" 10,
  Cond.initialized "LookAtClock",
  Cond.methodLink "LookAtClockLaw" 17 yX11_init,
  Cond.code yX11_init cX11_init 2 none,
  Cond.instanceMethod yX11_init,
  Cond.classLink "LookAtClockLaw" 18 "LookAtClockModel",
  Cond.instantiable "LookAtClockModel" 41,
  Cond.initialized "LookAtClockModel",
  Cond.methodLink "LookAtClockLaw" 20 yX12_init,
  Cond.code yX12_init cX12_init 1 none,
  Cond.instanceMethod yX12_init,
  Cond.arrayClass .long,
  Cond.code yX11_town cX11_town 8 (some .int),
  Cond.methodLink "LookAtClockLaw" 21 yX11_town,
  Cond.instanceMethod yX11_town,
  Cond.selects "LookAtClock" yX11_town yX11_town,
  Cond.code yX12_town cX12_town 2 (some .int),
  Cond.methodLink "LookAtClockLaw" 25 yX12_town,
  Cond.instanceMethod yX12_town,
  Cond.selects "LookAtClockModel" yX12_town yX12_town,
  Cond.code yX11_price cX11_price 2 (some .int),
  Cond.methodLink "LookAtClockLaw" 26 yX11_price,
  Cond.instanceMethod yX11_price,
  Cond.selects "LookAtClock" yX11_price yX11_price,
  Cond.code yX12_price cX12_price 2 (some .int),
  Cond.methodLink "LookAtClockLaw" 29 yX12_price,
  Cond.instanceMethod yX12_price,
  Cond.selects "LookAtClockModel" yX12_price yX12_price,
  Cond.code yX11_law cX11_law 3 (some .int),
  Cond.methodLink "LookAtClockLaw" 30 yX11_law,
  Cond.instanceMethod yX11_law,
  Cond.selects "LookAtClock" yX11_law yX11_law,
  Cond.code yX12_law cX12_law 3 (some .int),
  Cond.methodLink "LookAtClockLaw" 33 yX12_law,
  Cond.instanceMethod yX12_law,
  Cond.selects "LookAtClockModel" yX12_law yX12_law,
  Cond.code yX11_work cX11_work 3 (some .int),
  Cond.methodLink "LookAtClockLaw" 34 yX11_work,
  Cond.instanceMethod yX11_work]
def mjGX1 : List Cond := [Cond.selects "LookAtClock" yX11_work yX11_work,
  Cond.code yX12_work cX12_work 3 (some .int),
  Cond.methodLink "LookAtClockLaw" 38 yX12_work,
  Cond.instanceMethod yX12_work,
  Cond.selects "LookAtClockModel" yX12_work yX12_work,
  Cond.code yX11_looker cX11_looker 4 (some .int),
  Cond.methodLink "LookAtClockLaw" 39 yX11_looker,
  Cond.instanceMethod yX11_looker,
  Cond.selects "LookAtClock" yX11_looker yX11_looker,
  Cond.code yX12_looker cX12_looker 3 (some .int),
  Cond.methodLink "LookAtClockLaw" 42 yX12_looker,
  Cond.instanceMethod yX12_looker,
  Cond.selects "LookAtClockModel" yX12_looker yX12_looker,
  Cond.code yX11_drift cX11_drift 3 (some .int),
  Cond.methodLink "LookAtClockLaw" 43 yX11_drift,
  Cond.instanceMethod yX11_drift,
  Cond.selects "LookAtClock" yX11_drift yX11_drift,
  Cond.code yX12_drift cX12_drift 2 (some .int),
  Cond.methodLink "LookAtClockLaw" 46 yX12_drift,
  Cond.instanceMethod yX12_drift,
  Cond.selects "LookAtClockModel" yX12_drift yX12_drift,
  Cond.code yX11_thinks cX11_thinks 5 (some .int),
  Cond.methodLink "LookAtClockLaw" 47 yX11_thinks,
  Cond.instanceMethod yX11_thinks,
  Cond.selects "LookAtClock" yX11_thinks yX11_thinks,
  Cond.code yX12_thinks cX12_thinks 4 (some .int),
  Cond.methodLink "LookAtClockLaw" 51 yX12_thinks,
  Cond.instanceMethod yX12_thinks,
  Cond.selects "LookAtClockModel" yX12_thinks yX12_thinks,
  Cond.code yX11_day cX11_day 4 (some .int),
  Cond.methodLink "LookAtClockLaw" 52 yX11_day,
  Cond.instanceMethod yX11_day,
  Cond.selects "LookAtClock" yX11_day yX11_day,
  Cond.code yX12_day cX12_day 4 (some .int),
  Cond.methodLink "LookAtClockLaw" 55 yX12_day,
  Cond.instanceMethod yX12_day,
  Cond.selects "LookAtClockModel" yX12_day yX12_day,
  Cond.code yX11_look cX11_look 4 (some .int),
  Cond.methodLink "LookAtClockLaw" 56 yX11_look,
  Cond.instanceMethod yX11_look]
def mjGX2 : List Cond := [Cond.selects "LookAtClock" yX11_look yX11_look,
  Cond.code yX12_look cX12_look 3 (some .int),
  Cond.methodLink "LookAtClockLaw" 59 yX12_look,
  Cond.instanceMethod yX12_look,
  Cond.selects "LookAtClockModel" yX12_look yX12_look,
  Cond.code yX11_comes cX11_comes 4 (some .int),
  Cond.methodLink "LookAtClockLaw" 60 yX11_comes,
  Cond.instanceMethod yX11_comes,
  Cond.selects "LookAtClock" yX11_comes yX11_comes,
  Cond.code yX12_comes cX12_comes 3 (some .int),
  Cond.methodLink "LookAtClockLaw" 63 yX12_comes,
  Cond.instanceMethod yX12_comes,
  Cond.selects "LookAtClockModel" yX12_comes yX12_comes,
  Cond.code yX11_bestFigure cX11_bestFigure 3 (some .int),
  Cond.methodLink "LookAtClockLaw" 64 yX11_bestFigure,
  Cond.instanceMethod yX11_bestFigure,
  Cond.selects "LookAtClock" yX11_bestFigure yX11_bestFigure,
  Cond.code yX12_bestFigure cX12_bestFigure 2 (some .int),
  Cond.methodLink "LookAtClockLaw" 67 yX12_bestFigure,
  Cond.instanceMethod yX12_bestFigure,
  Cond.selects "LookAtClockModel" yX12_bestFigure yX12_bestFigure,
  Cond.code yX11_always cX11_always 5 (some .int),
  Cond.methodLink "LookAtClockLaw" 68 yX11_always,
  Cond.instanceMethod yX11_always,
  Cond.selects "LookAtClock" yX11_always yX11_always,
  Cond.code yX12_always cX12_always 3 (some .int),
  Cond.methodLink "LookAtClockLaw" 71 yX12_always,
  Cond.instanceMethod yX12_always,
  Cond.selects "LookAtClockModel" yX12_always yX12_always,
  Cond.code yX11_pays cX11_pays 4 (some .int),
  Cond.methodLink "LookAtClockLaw" 72 yX11_pays,
  Cond.instanceMethod yX11_pays,
  Cond.selects "LookAtClock" yX11_pays yX11_pays,
  Cond.code yX12_pays_ cX12_pays_ 2 (some .int),
  Cond.methodLink "LookAtClockLaw" 75 yX12_pays_,
  Cond.instanceMethod yX12_pays_,
  Cond.selects "LookAtClockModel" yX12_pays_ yX12_pays_,
  Cond.code yX11_bestKind cX11_bestKind 6 (some .int),
  Cond.methodLink "LookAtClockLaw" 76 yX11_bestKind,
  Cond.instanceMethod yX11_bestKind]
def mjGX3 : List Cond := [Cond.selects "LookAtClock" yX11_bestKind yX11_bestKind,
  Cond.code yX12_bestKind cX12_bestKind 6 (some .int),
  Cond.methodLink "LookAtClockLaw" 79 yX12_bestKind,
  Cond.instanceMethod yX12_bestKind,
  Cond.selects "LookAtClockModel" yX12_bestKind yX12_bestKind,
  Cond.code yX11_edge cX11_edge 6 (some .int),
  Cond.methodLink "LookAtClockLaw" 80 yX11_edge,
  Cond.instanceMethod yX11_edge,
  Cond.selects "LookAtClock" yX11_edge yX11_edge,
  Cond.code yX12_edge cX12_edge 4 (some .int),
  Cond.methodLink "LookAtClockLaw" 83 yX12_edge,
  Cond.instanceMethod yX12_edge,
  Cond.selects "LookAtClockModel" yX12_edge yX12_edge,
  Cond.code yX11_waits cX11_waits 4 (some .int),
  Cond.methodLink "LookAtClockLaw" 84 yX11_waits,
  Cond.instanceMethod yX11_waits,
  Cond.selects "LookAtClock" yX11_waits yX11_waits,
  Cond.code yX12_waits cX12_waits 4 (some .int),
  Cond.methodLink "LookAtClockLaw" 87 yX12_waits,
  Cond.instanceMethod yX12_waits,
  Cond.selects "LookAtClockModel" yX12_waits yX12_waits,
  Cond.code yX11_learn cX11_learn 9 (some .int),
  Cond.methodLink "LookAtClockLaw" 88 yX11_learn,
  Cond.instanceMethod yX11_learn,
  Cond.selects "LookAtClock" yX11_learn yX11_learn,
  Cond.code yX12_learn cX12_learn 11 (some .int),
  Cond.methodLink "LookAtClockLaw" 91 yX12_learn,
  Cond.instanceMethod yX12_learn,
  Cond.selects "LookAtClockModel" yX12_learn yX12_learn,
  Cond.code yX11_shared cX11_shared 3 (some .int),
  Cond.methodLink "LookAtClockLaw" 92 yX11_shared,
  Cond.instanceMethod yX11_shared,
  Cond.selects "LookAtClock" yX11_shared yX11_shared,
  Cond.code yX12_shared cX12_shared 3 (some .int),
  Cond.methodLink "LookAtClockLaw" 95 yX12_shared,
  Cond.instanceMethod yX12_shared,
  Cond.selects "LookAtClockModel" yX12_shared yX12_shared,
  Cond.code yX11_nine cX11_nine 5 (some .int),
  Cond.methodLink "LookAtClockLaw" 96 yX11_nine,
  Cond.instanceMethod yX11_nine]
def mjGX4 : List Cond := [Cond.selects "LookAtClock" yX11_nine yX11_nine,
  Cond.code yX12_nine cX12_nine 4 (some .int),
  Cond.methodLink "LookAtClockLaw" 99 yX12_nine,
  Cond.instanceMethod yX12_nine,
  Cond.selects "LookAtClockModel" yX12_nine yX12_nine,
  Cond.code yX11_buys cX11_buys 5 (some .int),
  Cond.methodLink "LookAtClockLaw" 100 yX11_buys,
  Cond.instanceMethod yX11_buys,
  Cond.selects "LookAtClock" yX11_buys yX11_buys,
  Cond.code yX12_buys cX12_buys 5 (some .int),
  Cond.methodLink "LookAtClockLaw" 104 yX12_buys,
  Cond.instanceMethod yX12_buys,
  Cond.selects "LookAtClockModel" yX12_buys yX12_buys,
  Cond.code yX11_rest cX11_rest 5 (some .int),
  Cond.methodLink "LookAtClockLaw" 105 yX11_rest,
  Cond.instanceMethod yX11_rest,
  Cond.selects "LookAtClock" yX11_rest yX11_rest,
  Cond.code yX12_rest cX12_rest 6 (some .int),
  Cond.methodLink "LookAtClockLaw" 108 yX12_rest,
  Cond.instanceMethod yX12_rest,
  Cond.selects "LookAtClockModel" yX12_rest yX12_rest,
  Cond.code yX11_cheaper cX11_cheaper 2 (some .int),
  Cond.methodLink "LookAtClockLaw" 109 yX11_cheaper,
  Cond.instanceMethod yX11_cheaper,
  Cond.selects "LookAtClock" yX11_cheaper yX11_cheaper,
  Cond.code yX12_cheaper cX12_cheaper 2 (some .int),
  Cond.methodLink "LookAtClockLaw" 112 yX12_cheaper,
  Cond.instanceMethod yX12_cheaper,
  Cond.selects "LookAtClockModel" yX12_cheaper yX12_cheaper,
  Cond.code yX11_otherCheaper cX11_otherCheaper 3 (some .int),
  Cond.methodLink "LookAtClockLaw" 113 yX11_otherCheaper,
  Cond.instanceMethod yX11_otherCheaper,
  Cond.selects "LookAtClock" yX11_otherCheaper yX11_otherCheaper,
  Cond.code yX12_otherCheaper cX12_otherCheaper 3 (some .int),
  Cond.methodLink "LookAtClockLaw" 117 yX12_otherCheaper,
  Cond.instanceMethod yX12_otherCheaper,
  Cond.selects "LookAtClockModel" yX12_otherCheaper yX12_otherCheaper,
  Cond.code yX11_byLaw cX11_byLaw 4 (some .int),
  Cond.methodLink "LookAtClockLaw" 118 yX11_byLaw,
  Cond.instanceMethod yX11_byLaw]
def mjGX5 : List Cond := [Cond.selects "LookAtClock" yX11_byLaw yX11_byLaw,
  Cond.code yX12_byLaw cX12_byLaw 3 (some .int),
  Cond.methodLink "LookAtClockLaw" 121 yX12_byLaw,
  Cond.instanceMethod yX12_byLaw,
  Cond.selects "LookAtClockModel" yX12_byLaw yX12_byLaw,
  Cond.code yX11_sum cX11_sum 3 (some .int),
  Cond.methodLink "LookAtClockLaw" 122 yX11_sum,
  Cond.instanceMethod yX11_sum,
  Cond.selects "LookAtClock" yX11_sum yX11_sum,
  Cond.code yX12_sum cX12_sum 3 (some .int),
  Cond.methodLink "LookAtClockLaw" 125 yX12_sum,
  Cond.instanceMethod yX12_sum,
  Cond.selects "LookAtClockModel" yX12_sum yX12_sum,
  Cond.code yX11_order cX11_order 3 (some .int),
  Cond.methodLink "LookAtClockLaw" 126 yX11_order,
  Cond.instanceMethod yX11_order,
  Cond.selects "LookAtClock" yX11_order yX11_order,
  Cond.code yX12_order cX12_order 7 (some .int),
  Cond.methodLink "LookAtClockLaw" 129 yX12_order,
  Cond.instanceMethod yX12_order,
  Cond.selects "LookAtClockModel" yX12_order yX12_order,
  Cond.code yX11_seeded cX11_seeded 13 (some .int),
  Cond.methodLink "LookAtClockLaw" 130 yX11_seeded,
  Cond.instanceMethod yX11_seeded,
  Cond.selects "LookAtClock" yX11_seeded yX11_seeded,
  Cond.code yX12_seeded cX12_seeded 12 (some .int),
  Cond.methodLink "LookAtClockLaw" 133 yX12_seeded,
  Cond.instanceMethod yX12_seeded,
  Cond.selects "LookAtClockModel" yX12_seeded yX12_seeded,
  Cond.code yX11_judge cX11_judge 9 (some .int),
  Cond.methodLink "LookAtClockLaw" 134 yX11_judge,
  Cond.instanceMethod yX11_judge,
  Cond.selects "LookAtClock" yX11_judge yX11_judge,
  Cond.code yX12_judge cX12_judge 6 (some .int),
  Cond.methodLink "LookAtClockLaw" 137 yX12_judge,
  Cond.instanceMethod yX12_judge,
  Cond.selects "LookAtClockModel" yX12_judge yX12_judge,
  Cond.code yX11_image cX11_image 1 (some .int),
  Cond.methodLink "LookAtClockLaw" 138 yX11_image,
  Cond.instanceMethod yX11_image]
def mjGX6 : List Cond := [Cond.selects "LookAtClock" yX11_image yX11_image,
  Cond.code yX12_image cX12_image 1 (some .int),
  Cond.methodLink "LookAtClockLaw" 141 yX12_image,
  Cond.instanceMethod yX12_image,
  Cond.selects "LookAtClockModel" yX12_image yX12_image,
  Cond.code yX11_restore cX11_restore 1 (some .int),
  Cond.methodLink "LookAtClockLaw" 142 yX11_restore,
  Cond.instanceMethod yX11_restore,
  Cond.selects "LookAtClock" yX11_restore yX11_restore,
  Cond.code yX12_restore cX12_restore 1 (some .int),
  Cond.methodLink "LookAtClockLaw" 145 yX12_restore,
  Cond.instanceMethod yX12_restore,
  Cond.selects "LookAtClockModel" yX12_restore yX12_restore,
  Cond.code yX11_count cX11_count 2 (some .int),
  Cond.methodLink "LookAtClockLaw" 146 yX11_count,
  Cond.instanceMethod yX11_count,
  Cond.selects "LookAtClock" yX11_count yX11_count,
  Cond.code yX12_count cX12_count 4 (some .int),
  Cond.methodLink "LookAtClockLaw" 149 yX12_count,
  Cond.instanceMethod yX12_count,
  Cond.selects "LookAtClockModel" yX12_count yX12_count,
  Cond.code yX11_keep cX11_keep 5 (some .int),
  Cond.methodLink "LookAtClockLaw" 150 yX11_keep,
  Cond.instanceMethod yX11_keep,
  Cond.selects "LookAtClock" yX11_keep yX11_keep,
  Cond.code yX12_keep cX12_keep 4 (some .int),
  Cond.methodLink "LookAtClockLaw" 153 yX12_keep,
  Cond.instanceMethod yX12_keep,
  Cond.selects "LookAtClockModel" yX12_keep yX12_keep,
  Cond.code yX11_row cX11_row 4 (some .int),
  Cond.methodLink "LookAtClockLaw" 154 yX11_row,
  Cond.instanceMethod yX11_row,
  Cond.selects "LookAtClock" yX11_row yX11_row,
  Cond.code yX12_row cX12_row 5 (some .int),
  Cond.methodLink "LookAtClockLaw" 157 yX12_row,
  Cond.instanceMethod yX12_row,
  Cond.selects "LookAtClockModel" yX12_row yX12_row,
  Cond.code yX11_put cX11_put 6 (some .int),
  Cond.methodLink "LookAtClockLaw" 158 yX11_put,
  Cond.instanceMethod yX11_put]
def mjGX7 : List Cond := [Cond.selects "LookAtClock" yX11_put yX11_put,
  Cond.code yX12_put cX12_put 4 (some .int),
  Cond.methodLink "LookAtClockLaw" 161 yX12_put,
  Cond.instanceMethod yX12_put,
  Cond.selects "LookAtClockModel" yX12_put yX12_put,
  Cond.code yX12_element cX12_element 3 (some .long),
  Cond.methodLink "LookAtClockLaw" 167 yX12_element,
  Cond.instanceMethod yX12_element,
  Cond.selects "LookAtClockModel" yX12_element yX12_element,
  Cond.code yX12_thrown cX12_thrown 1 (some .int),
  Cond.methodLink "LookAtClockLaw" 168 yX12_thrown,
  Cond.instanceMethod yX12_thrown,
  Cond.selects "LookAtClockModel" yX12_thrown yX12_thrown,
  Cond.code yX11_copy cX11_copy 8 (some .int),
  Cond.methodLink "LookAtClockLaw" 171 yX11_copy,
  Cond.instanceMethod yX11_copy,
  Cond.selects "LookAtClock" yX11_copy yX11_copy,
  Cond.code yX12_copy cX12_copy 7 (some .int),
  Cond.methodLink "LookAtClockLaw" 175 yX12_copy,
  Cond.instanceMethod yX12_copy,
  Cond.selects "LookAtClockModel" yX12_copy yX12_copy,
  Cond.code yX11_skill cX11_skill 3 (some .int),
  Cond.methodLink "LookAtClockLaw" 176 yX11_skill,
  Cond.instanceMethod yX11_skill,
  Cond.selects "LookAtClock" yX11_skill yX11_skill,
  Cond.code yX12_skill cX12_skill 2 (some .int),
  Cond.methodLink "LookAtClockLaw" 179 yX12_skill,
  Cond.instanceMethod yX12_skill,
  Cond.selects "LookAtClockModel" yX12_skill yX12_skill,
  Cond.code yX12_toss cX12_toss 2 (some .int),
  Cond.methodLink "LookAtClockLaw" 183 yX12_toss,
  Cond.instanceMethod yX12_toss,
  Cond.selects "LookAtClockModel" yX12_toss yX12_toss,
  Cond.classLink "LookAtClock$Best" 17 "java/lang/UnsupportedOperationException",
  Cond.initialized "java/lang/UnsupportedOperationException",
  Cond.classLink "LookAtClock$Looker" 24 "java/lang/IllegalStateException",
  Cond.initialized "java/lang/IllegalStateException",
  Cond.classLink "LookAtClock$Seller" 23 "java/lang/IllegalArgumentException",
  Cond.initialized "java/lang/IllegalArgumentException",
  Cond.classLink "LookAtClock" 248 "java/lang/IllegalArgumentException"]
def mjGX8 : List Cond := [Cond.classLink "LookAtClock" 255 "java/lang/IllegalStateException",
  Cond.classLink "LookAtClock" 287 "java/lang/UnsupportedOperationException",
  Cond.classLink "LookAtClockLaw" 13 "java/lang/IllegalArgumentException",
  Cond.classLink "LookAtClockLaw" 15 "java/lang/IllegalStateException",
  Cond.methodLink "LookAtClock" 284 yX4_fail,
  Cond.methodLink "LookAtClockLaw" 7 yX11_element,
  Cond.methodLink "LookAtClockLaw" 180 yX11_toss,
  Cond.methodLink "LookAtClockLaw" 162 yL_element,
  Cond.instanceMethod yX0_fail,
  Cond.instanceMethod yX4_fail,
  Cond.instanceMethod yX7_fail,
  Cond.instanceMethod yX9_fail,
  Cond.instanceMethod yX11_toss,
  Cond.instanceMethod yX11_element,
  Cond.static yL_element,
  Cond.sameMethod "LookAtClock$Looker" "LookAtClock$Looker" "fail" "()V",
  Cond.selects "LookAtClock$Best" yX4_fail yX0_fail,
  Cond.selects "LookAtClock$Cheap" yX4_fail yX4_fail,
  Cond.selects "LookAtClock$Clock" yX4_fail yX4_fail,
  Cond.selects "LookAtClock$Looker" yX4_fail yX4_fail,
  Cond.selects "LookAtClock$Never" yX4_fail yX4_fail,
  Cond.selects "LookAtClock$Seller" yX4_fail yX7_fail,
  Cond.selects "LookAtClock$Share" yX4_fail yX4_fail,
  Cond.selects "LookAtClock$Told" yX4_fail yX9_fail,
  Cond.selects "LookAtClock" yX11_element yX11_element,
  Cond.selects "LookAtClock" yX11_toss yX11_toss,
  Cond.initialized "LookAtClockLaw",
  Cond.initialized "LookAtClock$Looker",
  Cond.initialized "LookAtClock$Best",
  Cond.initialized "LookAtClock$Seller",
  Cond.initialized "LookAtClock$Told"]
def mjGXw : List Cond := mjGX0 ++ (mjGX1 ++ (mjGX2 ++ (mjGX3 ++ (mjGX4 ++ (mjGX5 ++ (mjGX6 ++ (mjGX7 ++ (mjGX8))))))))
theorem wx0 : Cond.classLink "LookAtClockLaw" 8 "LookAtClock" ∈ mjGXw := List.mem_append_left _ (List.mem_of_getElem? (i := 0) rfl)
theorem wx1 : Cond.instantiable "LookAtClock" 10 ∈ mjGXw := List.mem_append_left _ (List.mem_of_getElem? (i := 1) rfl)
theorem wx2 : Cond.initialized "LookAtClock" ∈ mjGXw := List.mem_append_left _ (List.mem_of_getElem? (i := 2) rfl)
theorem wx3 : Cond.methodLink "LookAtClockLaw" 17 yX11_init ∈ mjGXw := List.mem_append_left _ (List.mem_of_getElem? (i := 3) rfl)
theorem wx4 : Cond.code yX11_init cX11_init 2 none ∈ mjGXw := List.mem_append_left _ (List.mem_of_getElem? (i := 4) rfl)
theorem wx5 : Cond.instanceMethod yX11_init ∈ mjGXw := List.mem_append_left _ (List.mem_of_getElem? (i := 5) rfl)
theorem wx6 : Cond.classLink "LookAtClockLaw" 18 "LookAtClockModel" ∈ mjGXw := List.mem_append_left _ (List.mem_of_getElem? (i := 6) rfl)
theorem wx7 : Cond.instantiable "LookAtClockModel" 41 ∈ mjGXw := List.mem_append_left _ (List.mem_of_getElem? (i := 7) rfl)
theorem wx8 : Cond.initialized "LookAtClockModel" ∈ mjGXw := List.mem_append_left _ (List.mem_of_getElem? (i := 8) rfl)
theorem wx9 : Cond.methodLink "LookAtClockLaw" 20 yX12_init ∈ mjGXw := List.mem_append_left _ (List.mem_of_getElem? (i := 9) rfl)
theorem wx10 : Cond.code yX12_init cX12_init 1 none ∈ mjGXw := List.mem_append_left _ (List.mem_of_getElem? (i := 10) rfl)
theorem wx11 : Cond.instanceMethod yX12_init ∈ mjGXw := List.mem_append_left _ (List.mem_of_getElem? (i := 11) rfl)
theorem wx12 : Cond.arrayClass .long ∈ mjGXw := List.mem_append_left _ (List.mem_of_getElem? (i := 12) rfl)
theorem wx13 : Cond.code yX11_town cX11_town 8 (some .int) ∈ mjGXw := List.mem_append_left _ (List.mem_of_getElem? (i := 13) rfl)
theorem wx14 : Cond.methodLink "LookAtClockLaw" 21 yX11_town ∈ mjGXw := List.mem_append_left _ (List.mem_of_getElem? (i := 14) rfl)
theorem wx15 : Cond.instanceMethod yX11_town ∈ mjGXw := List.mem_append_left _ (List.mem_of_getElem? (i := 15) rfl)
theorem wx16 : Cond.selects "LookAtClock" yX11_town yX11_town ∈ mjGXw := List.mem_append_left _ (List.mem_of_getElem? (i := 16) rfl)
theorem wx17 : Cond.code yX12_town cX12_town 2 (some .int) ∈ mjGXw := List.mem_append_left _ (List.mem_of_getElem? (i := 17) rfl)
theorem wx18 : Cond.methodLink "LookAtClockLaw" 25 yX12_town ∈ mjGXw := List.mem_append_left _ (List.mem_of_getElem? (i := 18) rfl)
theorem wx19 : Cond.instanceMethod yX12_town ∈ mjGXw := List.mem_append_left _ (List.mem_of_getElem? (i := 19) rfl)
theorem wx20 : Cond.selects "LookAtClockModel" yX12_town yX12_town ∈ mjGXw := List.mem_append_left _ (List.mem_of_getElem? (i := 20) rfl)
theorem wx21 : Cond.code yX11_price cX11_price 2 (some .int) ∈ mjGXw := List.mem_append_left _ (List.mem_of_getElem? (i := 21) rfl)
theorem wx22 : Cond.methodLink "LookAtClockLaw" 26 yX11_price ∈ mjGXw := List.mem_append_left _ (List.mem_of_getElem? (i := 22) rfl)
theorem wx23 : Cond.instanceMethod yX11_price ∈ mjGXw := List.mem_append_left _ (List.mem_of_getElem? (i := 23) rfl)
theorem wx24 : Cond.selects "LookAtClock" yX11_price yX11_price ∈ mjGXw := List.mem_append_left _ (List.mem_of_getElem? (i := 24) rfl)
theorem wx25 : Cond.code yX12_price cX12_price 2 (some .int) ∈ mjGXw := List.mem_append_left _ (List.mem_of_getElem? (i := 25) rfl)
theorem wx26 : Cond.methodLink "LookAtClockLaw" 29 yX12_price ∈ mjGXw := List.mem_append_left _ (List.mem_of_getElem? (i := 26) rfl)
theorem wx27 : Cond.instanceMethod yX12_price ∈ mjGXw := List.mem_append_left _ (List.mem_of_getElem? (i := 27) rfl)
theorem wx28 : Cond.selects "LookAtClockModel" yX12_price yX12_price ∈ mjGXw := List.mem_append_left _ (List.mem_of_getElem? (i := 28) rfl)
theorem wx29 : Cond.code yX11_law cX11_law 3 (some .int) ∈ mjGXw := List.mem_append_left _ (List.mem_of_getElem? (i := 29) rfl)
theorem wx30 : Cond.methodLink "LookAtClockLaw" 30 yX11_law ∈ mjGXw := List.mem_append_left _ (List.mem_of_getElem? (i := 30) rfl)
theorem wx31 : Cond.instanceMethod yX11_law ∈ mjGXw := List.mem_append_left _ (List.mem_of_getElem? (i := 31) rfl)
theorem wx32 : Cond.selects "LookAtClock" yX11_law yX11_law ∈ mjGXw := List.mem_append_left _ (List.mem_of_getElem? (i := 32) rfl)
theorem wx33 : Cond.code yX12_law cX12_law 3 (some .int) ∈ mjGXw := List.mem_append_left _ (List.mem_of_getElem? (i := 33) rfl)
theorem wx34 : Cond.methodLink "LookAtClockLaw" 33 yX12_law ∈ mjGXw := List.mem_append_left _ (List.mem_of_getElem? (i := 34) rfl)
theorem wx35 : Cond.instanceMethod yX12_law ∈ mjGXw := List.mem_append_left _ (List.mem_of_getElem? (i := 35) rfl)
theorem wx36 : Cond.selects "LookAtClockModel" yX12_law yX12_law ∈ mjGXw := List.mem_append_left _ (List.mem_of_getElem? (i := 36) rfl)
theorem wx37 : Cond.code yX11_work cX11_work 3 (some .int) ∈ mjGXw := List.mem_append_left _ (List.mem_of_getElem? (i := 37) rfl)
theorem wx38 : Cond.methodLink "LookAtClockLaw" 34 yX11_work ∈ mjGXw := List.mem_append_left _ (List.mem_of_getElem? (i := 38) rfl)
theorem wx39 : Cond.instanceMethod yX11_work ∈ mjGXw := List.mem_append_left _ (List.mem_of_getElem? (i := 39) rfl)
theorem wx40 : Cond.selects "LookAtClock" yX11_work yX11_work ∈ mjGXw := List.mem_append_right _ (List.mem_append_left _ (List.mem_of_getElem? (i := 0) rfl))
theorem wx41 : Cond.code yX12_work cX12_work 3 (some .int) ∈ mjGXw := List.mem_append_right _ (List.mem_append_left _ (List.mem_of_getElem? (i := 1) rfl))
theorem wx42 : Cond.methodLink "LookAtClockLaw" 38 yX12_work ∈ mjGXw := List.mem_append_right _ (List.mem_append_left _ (List.mem_of_getElem? (i := 2) rfl))
theorem wx43 : Cond.instanceMethod yX12_work ∈ mjGXw := List.mem_append_right _ (List.mem_append_left _ (List.mem_of_getElem? (i := 3) rfl))
theorem wx44 : Cond.selects "LookAtClockModel" yX12_work yX12_work ∈ mjGXw := List.mem_append_right _ (List.mem_append_left _ (List.mem_of_getElem? (i := 4) rfl))
theorem wx45 : Cond.code yX11_looker cX11_looker 4 (some .int) ∈ mjGXw := List.mem_append_right _ (List.mem_append_left _ (List.mem_of_getElem? (i := 5) rfl))
theorem wx46 : Cond.methodLink "LookAtClockLaw" 39 yX11_looker ∈ mjGXw := List.mem_append_right _ (List.mem_append_left _ (List.mem_of_getElem? (i := 6) rfl))
theorem wx47 : Cond.instanceMethod yX11_looker ∈ mjGXw := List.mem_append_right _ (List.mem_append_left _ (List.mem_of_getElem? (i := 7) rfl))
theorem wx48 : Cond.selects "LookAtClock" yX11_looker yX11_looker ∈ mjGXw := List.mem_append_right _ (List.mem_append_left _ (List.mem_of_getElem? (i := 8) rfl))
theorem wx49 : Cond.code yX12_looker cX12_looker 3 (some .int) ∈ mjGXw := List.mem_append_right _ (List.mem_append_left _ (List.mem_of_getElem? (i := 9) rfl))
theorem wx50 : Cond.methodLink "LookAtClockLaw" 42 yX12_looker ∈ mjGXw := List.mem_append_right _ (List.mem_append_left _ (List.mem_of_getElem? (i := 10) rfl))
theorem wx51 : Cond.instanceMethod yX12_looker ∈ mjGXw := List.mem_append_right _ (List.mem_append_left _ (List.mem_of_getElem? (i := 11) rfl))
theorem wx52 : Cond.selects "LookAtClockModel" yX12_looker yX12_looker ∈ mjGXw := List.mem_append_right _ (List.mem_append_left _ (List.mem_of_getElem? (i := 12) rfl))
theorem wx53 : Cond.code yX11_drift cX11_drift 3 (some .int) ∈ mjGXw := List.mem_append_right _ (List.mem_append_left _ (List.mem_of_getElem? (i := 13) rfl))
theorem wx54 : Cond.methodLink "LookAtClockLaw" 43 yX11_drift ∈ mjGXw := List.mem_append_right _ (List.mem_append_left _ (List.mem_of_getElem? (i := 14) rfl))
theorem wx55 : Cond.instanceMethod yX11_drift ∈ mjGXw := List.mem_append_right _ (List.mem_append_left _ (List.mem_of_getElem? (i := 15) rfl))
theorem wx56 : Cond.selects "LookAtClock" yX11_drift yX11_drift ∈ mjGXw := List.mem_append_right _ (List.mem_append_left _ (List.mem_of_getElem? (i := 16) rfl))
theorem wx57 : Cond.code yX12_drift cX12_drift 2 (some .int) ∈ mjGXw := List.mem_append_right _ (List.mem_append_left _ (List.mem_of_getElem? (i := 17) rfl))
theorem wx58 : Cond.methodLink "LookAtClockLaw" 46 yX12_drift ∈ mjGXw := List.mem_append_right _ (List.mem_append_left _ (List.mem_of_getElem? (i := 18) rfl))
theorem wx59 : Cond.instanceMethod yX12_drift ∈ mjGXw := List.mem_append_right _ (List.mem_append_left _ (List.mem_of_getElem? (i := 19) rfl))
theorem wx60 : Cond.selects "LookAtClockModel" yX12_drift yX12_drift ∈ mjGXw := List.mem_append_right _ (List.mem_append_left _ (List.mem_of_getElem? (i := 20) rfl))
theorem wx61 : Cond.code yX11_thinks cX11_thinks 5 (some .int) ∈ mjGXw := List.mem_append_right _ (List.mem_append_left _ (List.mem_of_getElem? (i := 21) rfl))
theorem wx62 : Cond.methodLink "LookAtClockLaw" 47 yX11_thinks ∈ mjGXw := List.mem_append_right _ (List.mem_append_left _ (List.mem_of_getElem? (i := 22) rfl))
theorem wx63 : Cond.instanceMethod yX11_thinks ∈ mjGXw := List.mem_append_right _ (List.mem_append_left _ (List.mem_of_getElem? (i := 23) rfl))
theorem wx64 : Cond.selects "LookAtClock" yX11_thinks yX11_thinks ∈ mjGXw := List.mem_append_right _ (List.mem_append_left _ (List.mem_of_getElem? (i := 24) rfl))
theorem wx65 : Cond.code yX12_thinks cX12_thinks 4 (some .int) ∈ mjGXw := List.mem_append_right _ (List.mem_append_left _ (List.mem_of_getElem? (i := 25) rfl))
theorem wx66 : Cond.methodLink "LookAtClockLaw" 51 yX12_thinks ∈ mjGXw := List.mem_append_right _ (List.mem_append_left _ (List.mem_of_getElem? (i := 26) rfl))
theorem wx67 : Cond.instanceMethod yX12_thinks ∈ mjGXw := List.mem_append_right _ (List.mem_append_left _ (List.mem_of_getElem? (i := 27) rfl))
theorem wx68 : Cond.selects "LookAtClockModel" yX12_thinks yX12_thinks ∈ mjGXw := List.mem_append_right _ (List.mem_append_left _ (List.mem_of_getElem? (i := 28) rfl))
theorem wx69 : Cond.code yX11_day cX11_day 4 (some .int) ∈ mjGXw := List.mem_append_right _ (List.mem_append_left _ (List.mem_of_getElem? (i := 29) rfl))
theorem wx70 : Cond.methodLink "LookAtClockLaw" 52 yX11_day ∈ mjGXw := List.mem_append_right _ (List.mem_append_left _ (List.mem_of_getElem? (i := 30) rfl))
theorem wx71 : Cond.instanceMethod yX11_day ∈ mjGXw := List.mem_append_right _ (List.mem_append_left _ (List.mem_of_getElem? (i := 31) rfl))
theorem wx72 : Cond.selects "LookAtClock" yX11_day yX11_day ∈ mjGXw := List.mem_append_right _ (List.mem_append_left _ (List.mem_of_getElem? (i := 32) rfl))
theorem wx73 : Cond.code yX12_day cX12_day 4 (some .int) ∈ mjGXw := List.mem_append_right _ (List.mem_append_left _ (List.mem_of_getElem? (i := 33) rfl))
theorem wx74 : Cond.methodLink "LookAtClockLaw" 55 yX12_day ∈ mjGXw := List.mem_append_right _ (List.mem_append_left _ (List.mem_of_getElem? (i := 34) rfl))
theorem wx75 : Cond.instanceMethod yX12_day ∈ mjGXw := List.mem_append_right _ (List.mem_append_left _ (List.mem_of_getElem? (i := 35) rfl))
theorem wx76 : Cond.selects "LookAtClockModel" yX12_day yX12_day ∈ mjGXw := List.mem_append_right _ (List.mem_append_left _ (List.mem_of_getElem? (i := 36) rfl))
theorem wx77 : Cond.code yX11_look cX11_look 4 (some .int) ∈ mjGXw := List.mem_append_right _ (List.mem_append_left _ (List.mem_of_getElem? (i := 37) rfl))
theorem wx78 : Cond.methodLink "LookAtClockLaw" 56 yX11_look ∈ mjGXw := List.mem_append_right _ (List.mem_append_left _ (List.mem_of_getElem? (i := 38) rfl))
theorem wx79 : Cond.instanceMethod yX11_look ∈ mjGXw := List.mem_append_right _ (List.mem_append_left _ (List.mem_of_getElem? (i := 39) rfl))
theorem wx80 : Cond.selects "LookAtClock" yX11_look yX11_look ∈ mjGXw := List.mem_append_right _ (List.mem_append_right _ (List.mem_append_left _ (List.mem_of_getElem? (i := 0) rfl)))
theorem wx81 : Cond.code yX12_look cX12_look 3 (some .int) ∈ mjGXw := List.mem_append_right _ (List.mem_append_right _ (List.mem_append_left _ (List.mem_of_getElem? (i := 1) rfl)))
theorem wx82 : Cond.methodLink "LookAtClockLaw" 59 yX12_look ∈ mjGXw := List.mem_append_right _ (List.mem_append_right _ (List.mem_append_left _ (List.mem_of_getElem? (i := 2) rfl)))
theorem wx83 : Cond.instanceMethod yX12_look ∈ mjGXw := List.mem_append_right _ (List.mem_append_right _ (List.mem_append_left _ (List.mem_of_getElem? (i := 3) rfl)))
theorem wx84 : Cond.selects "LookAtClockModel" yX12_look yX12_look ∈ mjGXw := List.mem_append_right _ (List.mem_append_right _ (List.mem_append_left _ (List.mem_of_getElem? (i := 4) rfl)))
theorem wx85 : Cond.code yX11_comes cX11_comes 4 (some .int) ∈ mjGXw := List.mem_append_right _ (List.mem_append_right _ (List.mem_append_left _ (List.mem_of_getElem? (i := 5) rfl)))
theorem wx86 : Cond.methodLink "LookAtClockLaw" 60 yX11_comes ∈ mjGXw := List.mem_append_right _ (List.mem_append_right _ (List.mem_append_left _ (List.mem_of_getElem? (i := 6) rfl)))
theorem wx87 : Cond.instanceMethod yX11_comes ∈ mjGXw := List.mem_append_right _ (List.mem_append_right _ (List.mem_append_left _ (List.mem_of_getElem? (i := 7) rfl)))
theorem wx88 : Cond.selects "LookAtClock" yX11_comes yX11_comes ∈ mjGXw := List.mem_append_right _ (List.mem_append_right _ (List.mem_append_left _ (List.mem_of_getElem? (i := 8) rfl)))
theorem wx89 : Cond.code yX12_comes cX12_comes 3 (some .int) ∈ mjGXw := List.mem_append_right _ (List.mem_append_right _ (List.mem_append_left _ (List.mem_of_getElem? (i := 9) rfl)))
theorem wx90 : Cond.methodLink "LookAtClockLaw" 63 yX12_comes ∈ mjGXw := List.mem_append_right _ (List.mem_append_right _ (List.mem_append_left _ (List.mem_of_getElem? (i := 10) rfl)))
theorem wx91 : Cond.instanceMethod yX12_comes ∈ mjGXw := List.mem_append_right _ (List.mem_append_right _ (List.mem_append_left _ (List.mem_of_getElem? (i := 11) rfl)))
theorem wx92 : Cond.selects "LookAtClockModel" yX12_comes yX12_comes ∈ mjGXw := List.mem_append_right _ (List.mem_append_right _ (List.mem_append_left _ (List.mem_of_getElem? (i := 12) rfl)))
theorem wx93 : Cond.code yX11_bestFigure cX11_bestFigure 3 (some .int) ∈ mjGXw := List.mem_append_right _ (List.mem_append_right _ (List.mem_append_left _ (List.mem_of_getElem? (i := 13) rfl)))
theorem wx94 : Cond.methodLink "LookAtClockLaw" 64 yX11_bestFigure ∈ mjGXw := List.mem_append_right _ (List.mem_append_right _ (List.mem_append_left _ (List.mem_of_getElem? (i := 14) rfl)))
theorem wx95 : Cond.instanceMethod yX11_bestFigure ∈ mjGXw := List.mem_append_right _ (List.mem_append_right _ (List.mem_append_left _ (List.mem_of_getElem? (i := 15) rfl)))
theorem wx96 : Cond.selects "LookAtClock" yX11_bestFigure yX11_bestFigure ∈ mjGXw := List.mem_append_right _ (List.mem_append_right _ (List.mem_append_left _ (List.mem_of_getElem? (i := 16) rfl)))
theorem wx97 : Cond.code yX12_bestFigure cX12_bestFigure 2 (some .int) ∈ mjGXw := List.mem_append_right _ (List.mem_append_right _ (List.mem_append_left _ (List.mem_of_getElem? (i := 17) rfl)))
theorem wx98 : Cond.methodLink "LookAtClockLaw" 67 yX12_bestFigure ∈ mjGXw := List.mem_append_right _ (List.mem_append_right _ (List.mem_append_left _ (List.mem_of_getElem? (i := 18) rfl)))
theorem wx99 : Cond.instanceMethod yX12_bestFigure ∈ mjGXw := List.mem_append_right _ (List.mem_append_right _ (List.mem_append_left _ (List.mem_of_getElem? (i := 19) rfl)))
theorem wx100 : Cond.selects "LookAtClockModel" yX12_bestFigure yX12_bestFigure ∈ mjGXw := List.mem_append_right _ (List.mem_append_right _ (List.mem_append_left _ (List.mem_of_getElem? (i := 20) rfl)))
theorem wx101 : Cond.code yX11_always cX11_always 5 (some .int) ∈ mjGXw := List.mem_append_right _ (List.mem_append_right _ (List.mem_append_left _ (List.mem_of_getElem? (i := 21) rfl)))
theorem wx102 : Cond.methodLink "LookAtClockLaw" 68 yX11_always ∈ mjGXw := List.mem_append_right _ (List.mem_append_right _ (List.mem_append_left _ (List.mem_of_getElem? (i := 22) rfl)))
theorem wx103 : Cond.instanceMethod yX11_always ∈ mjGXw := List.mem_append_right _ (List.mem_append_right _ (List.mem_append_left _ (List.mem_of_getElem? (i := 23) rfl)))
theorem wx104 : Cond.selects "LookAtClock" yX11_always yX11_always ∈ mjGXw := List.mem_append_right _ (List.mem_append_right _ (List.mem_append_left _ (List.mem_of_getElem? (i := 24) rfl)))
theorem wx105 : Cond.code yX12_always cX12_always 3 (some .int) ∈ mjGXw := List.mem_append_right _ (List.mem_append_right _ (List.mem_append_left _ (List.mem_of_getElem? (i := 25) rfl)))
theorem wx106 : Cond.methodLink "LookAtClockLaw" 71 yX12_always ∈ mjGXw := List.mem_append_right _ (List.mem_append_right _ (List.mem_append_left _ (List.mem_of_getElem? (i := 26) rfl)))
theorem wx107 : Cond.instanceMethod yX12_always ∈ mjGXw := List.mem_append_right _ (List.mem_append_right _ (List.mem_append_left _ (List.mem_of_getElem? (i := 27) rfl)))
theorem wx108 : Cond.selects "LookAtClockModel" yX12_always yX12_always ∈ mjGXw := List.mem_append_right _ (List.mem_append_right _ (List.mem_append_left _ (List.mem_of_getElem? (i := 28) rfl)))
theorem wx109 : Cond.code yX11_pays cX11_pays 4 (some .int) ∈ mjGXw := List.mem_append_right _ (List.mem_append_right _ (List.mem_append_left _ (List.mem_of_getElem? (i := 29) rfl)))
theorem wx110 : Cond.methodLink "LookAtClockLaw" 72 yX11_pays ∈ mjGXw := List.mem_append_right _ (List.mem_append_right _ (List.mem_append_left _ (List.mem_of_getElem? (i := 30) rfl)))
theorem wx111 : Cond.instanceMethod yX11_pays ∈ mjGXw := List.mem_append_right _ (List.mem_append_right _ (List.mem_append_left _ (List.mem_of_getElem? (i := 31) rfl)))
theorem wx112 : Cond.selects "LookAtClock" yX11_pays yX11_pays ∈ mjGXw := List.mem_append_right _ (List.mem_append_right _ (List.mem_append_left _ (List.mem_of_getElem? (i := 32) rfl)))
theorem wx113 : Cond.code yX12_pays_ cX12_pays_ 2 (some .int) ∈ mjGXw := List.mem_append_right _ (List.mem_append_right _ (List.mem_append_left _ (List.mem_of_getElem? (i := 33) rfl)))
theorem wx114 : Cond.methodLink "LookAtClockLaw" 75 yX12_pays_ ∈ mjGXw := List.mem_append_right _ (List.mem_append_right _ (List.mem_append_left _ (List.mem_of_getElem? (i := 34) rfl)))
theorem wx115 : Cond.instanceMethod yX12_pays_ ∈ mjGXw := List.mem_append_right _ (List.mem_append_right _ (List.mem_append_left _ (List.mem_of_getElem? (i := 35) rfl)))
theorem wx116 : Cond.selects "LookAtClockModel" yX12_pays_ yX12_pays_ ∈ mjGXw := List.mem_append_right _ (List.mem_append_right _ (List.mem_append_left _ (List.mem_of_getElem? (i := 36) rfl)))
theorem wx117 : Cond.code yX11_bestKind cX11_bestKind 6 (some .int) ∈ mjGXw := List.mem_append_right _ (List.mem_append_right _ (List.mem_append_left _ (List.mem_of_getElem? (i := 37) rfl)))
theorem wx118 : Cond.methodLink "LookAtClockLaw" 76 yX11_bestKind ∈ mjGXw := List.mem_append_right _ (List.mem_append_right _ (List.mem_append_left _ (List.mem_of_getElem? (i := 38) rfl)))
theorem wx119 : Cond.instanceMethod yX11_bestKind ∈ mjGXw := List.mem_append_right _ (List.mem_append_right _ (List.mem_append_left _ (List.mem_of_getElem? (i := 39) rfl)))
theorem wx120 : Cond.selects "LookAtClock" yX11_bestKind yX11_bestKind ∈ mjGXw := List.mem_append_right _ (List.mem_append_right _ (List.mem_append_right _ (List.mem_append_left _ (List.mem_of_getElem? (i := 0) rfl))))
theorem wx121 : Cond.code yX12_bestKind cX12_bestKind 6 (some .int) ∈ mjGXw := List.mem_append_right _ (List.mem_append_right _ (List.mem_append_right _ (List.mem_append_left _ (List.mem_of_getElem? (i := 1) rfl))))
theorem wx122 : Cond.methodLink "LookAtClockLaw" 79 yX12_bestKind ∈ mjGXw := List.mem_append_right _ (List.mem_append_right _ (List.mem_append_right _ (List.mem_append_left _ (List.mem_of_getElem? (i := 2) rfl))))
theorem wx123 : Cond.instanceMethod yX12_bestKind ∈ mjGXw := List.mem_append_right _ (List.mem_append_right _ (List.mem_append_right _ (List.mem_append_left _ (List.mem_of_getElem? (i := 3) rfl))))
theorem wx124 : Cond.selects "LookAtClockModel" yX12_bestKind yX12_bestKind ∈ mjGXw := List.mem_append_right _ (List.mem_append_right _ (List.mem_append_right _ (List.mem_append_left _ (List.mem_of_getElem? (i := 4) rfl))))
theorem wx125 : Cond.code yX11_edge cX11_edge 6 (some .int) ∈ mjGXw := List.mem_append_right _ (List.mem_append_right _ (List.mem_append_right _ (List.mem_append_left _ (List.mem_of_getElem? (i := 5) rfl))))
theorem wx126 : Cond.methodLink "LookAtClockLaw" 80 yX11_edge ∈ mjGXw := List.mem_append_right _ (List.mem_append_right _ (List.mem_append_right _ (List.mem_append_left _ (List.mem_of_getElem? (i := 6) rfl))))
theorem wx127 : Cond.instanceMethod yX11_edge ∈ mjGXw := List.mem_append_right _ (List.mem_append_right _ (List.mem_append_right _ (List.mem_append_left _ (List.mem_of_getElem? (i := 7) rfl))))
theorem wx128 : Cond.selects "LookAtClock" yX11_edge yX11_edge ∈ mjGXw := List.mem_append_right _ (List.mem_append_right _ (List.mem_append_right _ (List.mem_append_left _ (List.mem_of_getElem? (i := 8) rfl))))
theorem wx129 : Cond.code yX12_edge cX12_edge 4 (some .int) ∈ mjGXw := List.mem_append_right _ (List.mem_append_right _ (List.mem_append_right _ (List.mem_append_left _ (List.mem_of_getElem? (i := 9) rfl))))
theorem wx130 : Cond.methodLink "LookAtClockLaw" 83 yX12_edge ∈ mjGXw := List.mem_append_right _ (List.mem_append_right _ (List.mem_append_right _ (List.mem_append_left _ (List.mem_of_getElem? (i := 10) rfl))))
theorem wx131 : Cond.instanceMethod yX12_edge ∈ mjGXw := List.mem_append_right _ (List.mem_append_right _ (List.mem_append_right _ (List.mem_append_left _ (List.mem_of_getElem? (i := 11) rfl))))
theorem wx132 : Cond.selects "LookAtClockModel" yX12_edge yX12_edge ∈ mjGXw := List.mem_append_right _ (List.mem_append_right _ (List.mem_append_right _ (List.mem_append_left _ (List.mem_of_getElem? (i := 12) rfl))))
theorem wx133 : Cond.code yX11_waits cX11_waits 4 (some .int) ∈ mjGXw := List.mem_append_right _ (List.mem_append_right _ (List.mem_append_right _ (List.mem_append_left _ (List.mem_of_getElem? (i := 13) rfl))))
theorem wx134 : Cond.methodLink "LookAtClockLaw" 84 yX11_waits ∈ mjGXw := List.mem_append_right _ (List.mem_append_right _ (List.mem_append_right _ (List.mem_append_left _ (List.mem_of_getElem? (i := 14) rfl))))
theorem wx135 : Cond.instanceMethod yX11_waits ∈ mjGXw := List.mem_append_right _ (List.mem_append_right _ (List.mem_append_right _ (List.mem_append_left _ (List.mem_of_getElem? (i := 15) rfl))))
theorem wx136 : Cond.selects "LookAtClock" yX11_waits yX11_waits ∈ mjGXw := List.mem_append_right _ (List.mem_append_right _ (List.mem_append_right _ (List.mem_append_left _ (List.mem_of_getElem? (i := 16) rfl))))
theorem wx137 : Cond.code yX12_waits cX12_waits 4 (some .int) ∈ mjGXw := List.mem_append_right _ (List.mem_append_right _ (List.mem_append_right _ (List.mem_append_left _ (List.mem_of_getElem? (i := 17) rfl))))
theorem wx138 : Cond.methodLink "LookAtClockLaw" 87 yX12_waits ∈ mjGXw := List.mem_append_right _ (List.mem_append_right _ (List.mem_append_right _ (List.mem_append_left _ (List.mem_of_getElem? (i := 18) rfl))))
theorem wx139 : Cond.instanceMethod yX12_waits ∈ mjGXw := List.mem_append_right _ (List.mem_append_right _ (List.mem_append_right _ (List.mem_append_left _ (List.mem_of_getElem? (i := 19) rfl))))
theorem wx140 : Cond.selects "LookAtClockModel" yX12_waits yX12_waits ∈ mjGXw := List.mem_append_right _ (List.mem_append_right _ (List.mem_append_right _ (List.mem_append_left _ (List.mem_of_getElem? (i := 20) rfl))))
theorem wx141 : Cond.code yX11_learn cX11_learn 9 (some .int) ∈ mjGXw := List.mem_append_right _ (List.mem_append_right _ (List.mem_append_right _ (List.mem_append_left _ (List.mem_of_getElem? (i := 21) rfl))))
theorem wx142 : Cond.methodLink "LookAtClockLaw" 88 yX11_learn ∈ mjGXw := List.mem_append_right _ (List.mem_append_right _ (List.mem_append_right _ (List.mem_append_left _ (List.mem_of_getElem? (i := 22) rfl))))
theorem wx143 : Cond.instanceMethod yX11_learn ∈ mjGXw := List.mem_append_right _ (List.mem_append_right _ (List.mem_append_right _ (List.mem_append_left _ (List.mem_of_getElem? (i := 23) rfl))))
theorem wx144 : Cond.selects "LookAtClock" yX11_learn yX11_learn ∈ mjGXw := List.mem_append_right _ (List.mem_append_right _ (List.mem_append_right _ (List.mem_append_left _ (List.mem_of_getElem? (i := 24) rfl))))
theorem wx145 : Cond.code yX12_learn cX12_learn 11 (some .int) ∈ mjGXw := List.mem_append_right _ (List.mem_append_right _ (List.mem_append_right _ (List.mem_append_left _ (List.mem_of_getElem? (i := 25) rfl))))
theorem wx146 : Cond.methodLink "LookAtClockLaw" 91 yX12_learn ∈ mjGXw := List.mem_append_right _ (List.mem_append_right _ (List.mem_append_right _ (List.mem_append_left _ (List.mem_of_getElem? (i := 26) rfl))))
theorem wx147 : Cond.instanceMethod yX12_learn ∈ mjGXw := List.mem_append_right _ (List.mem_append_right _ (List.mem_append_right _ (List.mem_append_left _ (List.mem_of_getElem? (i := 27) rfl))))
theorem wx148 : Cond.selects "LookAtClockModel" yX12_learn yX12_learn ∈ mjGXw := List.mem_append_right _ (List.mem_append_right _ (List.mem_append_right _ (List.mem_append_left _ (List.mem_of_getElem? (i := 28) rfl))))
theorem wx149 : Cond.code yX11_shared cX11_shared 3 (some .int) ∈ mjGXw := List.mem_append_right _ (List.mem_append_right _ (List.mem_append_right _ (List.mem_append_left _ (List.mem_of_getElem? (i := 29) rfl))))
theorem wx150 : Cond.methodLink "LookAtClockLaw" 92 yX11_shared ∈ mjGXw := List.mem_append_right _ (List.mem_append_right _ (List.mem_append_right _ (List.mem_append_left _ (List.mem_of_getElem? (i := 30) rfl))))
theorem wx151 : Cond.instanceMethod yX11_shared ∈ mjGXw := List.mem_append_right _ (List.mem_append_right _ (List.mem_append_right _ (List.mem_append_left _ (List.mem_of_getElem? (i := 31) rfl))))
theorem wx152 : Cond.selects "LookAtClock" yX11_shared yX11_shared ∈ mjGXw := List.mem_append_right _ (List.mem_append_right _ (List.mem_append_right _ (List.mem_append_left _ (List.mem_of_getElem? (i := 32) rfl))))
theorem wx153 : Cond.code yX12_shared cX12_shared 3 (some .int) ∈ mjGXw := List.mem_append_right _ (List.mem_append_right _ (List.mem_append_right _ (List.mem_append_left _ (List.mem_of_getElem? (i := 33) rfl))))
theorem wx154 : Cond.methodLink "LookAtClockLaw" 95 yX12_shared ∈ mjGXw := List.mem_append_right _ (List.mem_append_right _ (List.mem_append_right _ (List.mem_append_left _ (List.mem_of_getElem? (i := 34) rfl))))
theorem wx155 : Cond.instanceMethod yX12_shared ∈ mjGXw := List.mem_append_right _ (List.mem_append_right _ (List.mem_append_right _ (List.mem_append_left _ (List.mem_of_getElem? (i := 35) rfl))))
theorem wx156 : Cond.selects "LookAtClockModel" yX12_shared yX12_shared ∈ mjGXw := List.mem_append_right _ (List.mem_append_right _ (List.mem_append_right _ (List.mem_append_left _ (List.mem_of_getElem? (i := 36) rfl))))
theorem wx157 : Cond.code yX11_nine cX11_nine 5 (some .int) ∈ mjGXw := List.mem_append_right _ (List.mem_append_right _ (List.mem_append_right _ (List.mem_append_left _ (List.mem_of_getElem? (i := 37) rfl))))
theorem wx158 : Cond.methodLink "LookAtClockLaw" 96 yX11_nine ∈ mjGXw := List.mem_append_right _ (List.mem_append_right _ (List.mem_append_right _ (List.mem_append_left _ (List.mem_of_getElem? (i := 38) rfl))))
theorem wx159 : Cond.instanceMethod yX11_nine ∈ mjGXw := List.mem_append_right _ (List.mem_append_right _ (List.mem_append_right _ (List.mem_append_left _ (List.mem_of_getElem? (i := 39) rfl))))
theorem wx160 : Cond.selects "LookAtClock" yX11_nine yX11_nine ∈ mjGXw := List.mem_append_right _ (List.mem_append_right _ (List.mem_append_right _ (List.mem_append_right _ (List.mem_append_left _ (List.mem_of_getElem? (i := 0) rfl)))))
theorem wx161 : Cond.code yX12_nine cX12_nine 4 (some .int) ∈ mjGXw := List.mem_append_right _ (List.mem_append_right _ (List.mem_append_right _ (List.mem_append_right _ (List.mem_append_left _ (List.mem_of_getElem? (i := 1) rfl)))))
theorem wx162 : Cond.methodLink "LookAtClockLaw" 99 yX12_nine ∈ mjGXw := List.mem_append_right _ (List.mem_append_right _ (List.mem_append_right _ (List.mem_append_right _ (List.mem_append_left _ (List.mem_of_getElem? (i := 2) rfl)))))
theorem wx163 : Cond.instanceMethod yX12_nine ∈ mjGXw := List.mem_append_right _ (List.mem_append_right _ (List.mem_append_right _ (List.mem_append_right _ (List.mem_append_left _ (List.mem_of_getElem? (i := 3) rfl)))))
theorem wx164 : Cond.selects "LookAtClockModel" yX12_nine yX12_nine ∈ mjGXw := List.mem_append_right _ (List.mem_append_right _ (List.mem_append_right _ (List.mem_append_right _ (List.mem_append_left _ (List.mem_of_getElem? (i := 4) rfl)))))
theorem wx165 : Cond.code yX11_buys cX11_buys 5 (some .int) ∈ mjGXw := List.mem_append_right _ (List.mem_append_right _ (List.mem_append_right _ (List.mem_append_right _ (List.mem_append_left _ (List.mem_of_getElem? (i := 5) rfl)))))
theorem wx166 : Cond.methodLink "LookAtClockLaw" 100 yX11_buys ∈ mjGXw := List.mem_append_right _ (List.mem_append_right _ (List.mem_append_right _ (List.mem_append_right _ (List.mem_append_left _ (List.mem_of_getElem? (i := 6) rfl)))))
theorem wx167 : Cond.instanceMethod yX11_buys ∈ mjGXw := List.mem_append_right _ (List.mem_append_right _ (List.mem_append_right _ (List.mem_append_right _ (List.mem_append_left _ (List.mem_of_getElem? (i := 7) rfl)))))
theorem wx168 : Cond.selects "LookAtClock" yX11_buys yX11_buys ∈ mjGXw := List.mem_append_right _ (List.mem_append_right _ (List.mem_append_right _ (List.mem_append_right _ (List.mem_append_left _ (List.mem_of_getElem? (i := 8) rfl)))))
theorem wx169 : Cond.code yX12_buys cX12_buys 5 (some .int) ∈ mjGXw := List.mem_append_right _ (List.mem_append_right _ (List.mem_append_right _ (List.mem_append_right _ (List.mem_append_left _ (List.mem_of_getElem? (i := 9) rfl)))))
theorem wx170 : Cond.methodLink "LookAtClockLaw" 104 yX12_buys ∈ mjGXw := List.mem_append_right _ (List.mem_append_right _ (List.mem_append_right _ (List.mem_append_right _ (List.mem_append_left _ (List.mem_of_getElem? (i := 10) rfl)))))
theorem wx171 : Cond.instanceMethod yX12_buys ∈ mjGXw := List.mem_append_right _ (List.mem_append_right _ (List.mem_append_right _ (List.mem_append_right _ (List.mem_append_left _ (List.mem_of_getElem? (i := 11) rfl)))))
theorem wx172 : Cond.selects "LookAtClockModel" yX12_buys yX12_buys ∈ mjGXw := List.mem_append_right _ (List.mem_append_right _ (List.mem_append_right _ (List.mem_append_right _ (List.mem_append_left _ (List.mem_of_getElem? (i := 12) rfl)))))
theorem wx173 : Cond.code yX11_rest cX11_rest 5 (some .int) ∈ mjGXw := List.mem_append_right _ (List.mem_append_right _ (List.mem_append_right _ (List.mem_append_right _ (List.mem_append_left _ (List.mem_of_getElem? (i := 13) rfl)))))
theorem wx174 : Cond.methodLink "LookAtClockLaw" 105 yX11_rest ∈ mjGXw := List.mem_append_right _ (List.mem_append_right _ (List.mem_append_right _ (List.mem_append_right _ (List.mem_append_left _ (List.mem_of_getElem? (i := 14) rfl)))))
theorem wx175 : Cond.instanceMethod yX11_rest ∈ mjGXw := List.mem_append_right _ (List.mem_append_right _ (List.mem_append_right _ (List.mem_append_right _ (List.mem_append_left _ (List.mem_of_getElem? (i := 15) rfl)))))
theorem wx176 : Cond.selects "LookAtClock" yX11_rest yX11_rest ∈ mjGXw := List.mem_append_right _ (List.mem_append_right _ (List.mem_append_right _ (List.mem_append_right _ (List.mem_append_left _ (List.mem_of_getElem? (i := 16) rfl)))))
theorem wx177 : Cond.code yX12_rest cX12_rest 6 (some .int) ∈ mjGXw := List.mem_append_right _ (List.mem_append_right _ (List.mem_append_right _ (List.mem_append_right _ (List.mem_append_left _ (List.mem_of_getElem? (i := 17) rfl)))))
theorem wx178 : Cond.methodLink "LookAtClockLaw" 108 yX12_rest ∈ mjGXw := List.mem_append_right _ (List.mem_append_right _ (List.mem_append_right _ (List.mem_append_right _ (List.mem_append_left _ (List.mem_of_getElem? (i := 18) rfl)))))
theorem wx179 : Cond.instanceMethod yX12_rest ∈ mjGXw := List.mem_append_right _ (List.mem_append_right _ (List.mem_append_right _ (List.mem_append_right _ (List.mem_append_left _ (List.mem_of_getElem? (i := 19) rfl)))))
theorem wx180 : Cond.selects "LookAtClockModel" yX12_rest yX12_rest ∈ mjGXw := List.mem_append_right _ (List.mem_append_right _ (List.mem_append_right _ (List.mem_append_right _ (List.mem_append_left _ (List.mem_of_getElem? (i := 20) rfl)))))
theorem wx181 : Cond.code yX11_cheaper cX11_cheaper 2 (some .int) ∈ mjGXw := List.mem_append_right _ (List.mem_append_right _ (List.mem_append_right _ (List.mem_append_right _ (List.mem_append_left _ (List.mem_of_getElem? (i := 21) rfl)))))
theorem wx182 : Cond.methodLink "LookAtClockLaw" 109 yX11_cheaper ∈ mjGXw := List.mem_append_right _ (List.mem_append_right _ (List.mem_append_right _ (List.mem_append_right _ (List.mem_append_left _ (List.mem_of_getElem? (i := 22) rfl)))))
theorem wx183 : Cond.instanceMethod yX11_cheaper ∈ mjGXw := List.mem_append_right _ (List.mem_append_right _ (List.mem_append_right _ (List.mem_append_right _ (List.mem_append_left _ (List.mem_of_getElem? (i := 23) rfl)))))
theorem wx184 : Cond.selects "LookAtClock" yX11_cheaper yX11_cheaper ∈ mjGXw := List.mem_append_right _ (List.mem_append_right _ (List.mem_append_right _ (List.mem_append_right _ (List.mem_append_left _ (List.mem_of_getElem? (i := 24) rfl)))))
theorem wx185 : Cond.code yX12_cheaper cX12_cheaper 2 (some .int) ∈ mjGXw := List.mem_append_right _ (List.mem_append_right _ (List.mem_append_right _ (List.mem_append_right _ (List.mem_append_left _ (List.mem_of_getElem? (i := 25) rfl)))))
theorem wx186 : Cond.methodLink "LookAtClockLaw" 112 yX12_cheaper ∈ mjGXw := List.mem_append_right _ (List.mem_append_right _ (List.mem_append_right _ (List.mem_append_right _ (List.mem_append_left _ (List.mem_of_getElem? (i := 26) rfl)))))
theorem wx187 : Cond.instanceMethod yX12_cheaper ∈ mjGXw := List.mem_append_right _ (List.mem_append_right _ (List.mem_append_right _ (List.mem_append_right _ (List.mem_append_left _ (List.mem_of_getElem? (i := 27) rfl)))))
theorem wx188 : Cond.selects "LookAtClockModel" yX12_cheaper yX12_cheaper ∈ mjGXw := List.mem_append_right _ (List.mem_append_right _ (List.mem_append_right _ (List.mem_append_right _ (List.mem_append_left _ (List.mem_of_getElem? (i := 28) rfl)))))
theorem wx189 : Cond.code yX11_otherCheaper cX11_otherCheaper 3 (some .int) ∈ mjGXw := List.mem_append_right _ (List.mem_append_right _ (List.mem_append_right _ (List.mem_append_right _ (List.mem_append_left _ (List.mem_of_getElem? (i := 29) rfl)))))
theorem wx190 : Cond.methodLink "LookAtClockLaw" 113 yX11_otherCheaper ∈ mjGXw := List.mem_append_right _ (List.mem_append_right _ (List.mem_append_right _ (List.mem_append_right _ (List.mem_append_left _ (List.mem_of_getElem? (i := 30) rfl)))))
theorem wx191 : Cond.instanceMethod yX11_otherCheaper ∈ mjGXw := List.mem_append_right _ (List.mem_append_right _ (List.mem_append_right _ (List.mem_append_right _ (List.mem_append_left _ (List.mem_of_getElem? (i := 31) rfl)))))
theorem wx192 : Cond.selects "LookAtClock" yX11_otherCheaper yX11_otherCheaper ∈ mjGXw := List.mem_append_right _ (List.mem_append_right _ (List.mem_append_right _ (List.mem_append_right _ (List.mem_append_left _ (List.mem_of_getElem? (i := 32) rfl)))))
theorem wx193 : Cond.code yX12_otherCheaper cX12_otherCheaper 3 (some .int) ∈ mjGXw := List.mem_append_right _ (List.mem_append_right _ (List.mem_append_right _ (List.mem_append_right _ (List.mem_append_left _ (List.mem_of_getElem? (i := 33) rfl)))))
theorem wx194 : Cond.methodLink "LookAtClockLaw" 117 yX12_otherCheaper ∈ mjGXw := List.mem_append_right _ (List.mem_append_right _ (List.mem_append_right _ (List.mem_append_right _ (List.mem_append_left _ (List.mem_of_getElem? (i := 34) rfl)))))
theorem wx195 : Cond.instanceMethod yX12_otherCheaper ∈ mjGXw := List.mem_append_right _ (List.mem_append_right _ (List.mem_append_right _ (List.mem_append_right _ (List.mem_append_left _ (List.mem_of_getElem? (i := 35) rfl)))))
theorem wx196 : Cond.selects "LookAtClockModel" yX12_otherCheaper yX12_otherCheaper ∈ mjGXw := List.mem_append_right _ (List.mem_append_right _ (List.mem_append_right _ (List.mem_append_right _ (List.mem_append_left _ (List.mem_of_getElem? (i := 36) rfl)))))
theorem wx197 : Cond.code yX11_byLaw cX11_byLaw 4 (some .int) ∈ mjGXw := List.mem_append_right _ (List.mem_append_right _ (List.mem_append_right _ (List.mem_append_right _ (List.mem_append_left _ (List.mem_of_getElem? (i := 37) rfl)))))
theorem wx198 : Cond.methodLink "LookAtClockLaw" 118 yX11_byLaw ∈ mjGXw := List.mem_append_right _ (List.mem_append_right _ (List.mem_append_right _ (List.mem_append_right _ (List.mem_append_left _ (List.mem_of_getElem? (i := 38) rfl)))))
theorem wx199 : Cond.instanceMethod yX11_byLaw ∈ mjGXw := List.mem_append_right _ (List.mem_append_right _ (List.mem_append_right _ (List.mem_append_right _ (List.mem_append_left _ (List.mem_of_getElem? (i := 39) rfl)))))
theorem wx200 : Cond.selects "LookAtClock" yX11_byLaw yX11_byLaw ∈ mjGXw := List.mem_append_right _ (List.mem_append_right _ (List.mem_append_right _ (List.mem_append_right _ (List.mem_append_right _ (List.mem_append_left _ (List.mem_of_getElem? (i := 0) rfl))))))
theorem wx201 : Cond.code yX12_byLaw cX12_byLaw 3 (some .int) ∈ mjGXw := List.mem_append_right _ (List.mem_append_right _ (List.mem_append_right _ (List.mem_append_right _ (List.mem_append_right _ (List.mem_append_left _ (List.mem_of_getElem? (i := 1) rfl))))))
theorem wx202 : Cond.methodLink "LookAtClockLaw" 121 yX12_byLaw ∈ mjGXw := List.mem_append_right _ (List.mem_append_right _ (List.mem_append_right _ (List.mem_append_right _ (List.mem_append_right _ (List.mem_append_left _ (List.mem_of_getElem? (i := 2) rfl))))))
theorem wx203 : Cond.instanceMethod yX12_byLaw ∈ mjGXw := List.mem_append_right _ (List.mem_append_right _ (List.mem_append_right _ (List.mem_append_right _ (List.mem_append_right _ (List.mem_append_left _ (List.mem_of_getElem? (i := 3) rfl))))))
theorem wx204 : Cond.selects "LookAtClockModel" yX12_byLaw yX12_byLaw ∈ mjGXw := List.mem_append_right _ (List.mem_append_right _ (List.mem_append_right _ (List.mem_append_right _ (List.mem_append_right _ (List.mem_append_left _ (List.mem_of_getElem? (i := 4) rfl))))))
theorem wx205 : Cond.code yX11_sum cX11_sum 3 (some .int) ∈ mjGXw := List.mem_append_right _ (List.mem_append_right _ (List.mem_append_right _ (List.mem_append_right _ (List.mem_append_right _ (List.mem_append_left _ (List.mem_of_getElem? (i := 5) rfl))))))
theorem wx206 : Cond.methodLink "LookAtClockLaw" 122 yX11_sum ∈ mjGXw := List.mem_append_right _ (List.mem_append_right _ (List.mem_append_right _ (List.mem_append_right _ (List.mem_append_right _ (List.mem_append_left _ (List.mem_of_getElem? (i := 6) rfl))))))
theorem wx207 : Cond.instanceMethod yX11_sum ∈ mjGXw := List.mem_append_right _ (List.mem_append_right _ (List.mem_append_right _ (List.mem_append_right _ (List.mem_append_right _ (List.mem_append_left _ (List.mem_of_getElem? (i := 7) rfl))))))
theorem wx208 : Cond.selects "LookAtClock" yX11_sum yX11_sum ∈ mjGXw := List.mem_append_right _ (List.mem_append_right _ (List.mem_append_right _ (List.mem_append_right _ (List.mem_append_right _ (List.mem_append_left _ (List.mem_of_getElem? (i := 8) rfl))))))
theorem wx209 : Cond.code yX12_sum cX12_sum 3 (some .int) ∈ mjGXw := List.mem_append_right _ (List.mem_append_right _ (List.mem_append_right _ (List.mem_append_right _ (List.mem_append_right _ (List.mem_append_left _ (List.mem_of_getElem? (i := 9) rfl))))))
theorem wx210 : Cond.methodLink "LookAtClockLaw" 125 yX12_sum ∈ mjGXw := List.mem_append_right _ (List.mem_append_right _ (List.mem_append_right _ (List.mem_append_right _ (List.mem_append_right _ (List.mem_append_left _ (List.mem_of_getElem? (i := 10) rfl))))))
theorem wx211 : Cond.instanceMethod yX12_sum ∈ mjGXw := List.mem_append_right _ (List.mem_append_right _ (List.mem_append_right _ (List.mem_append_right _ (List.mem_append_right _ (List.mem_append_left _ (List.mem_of_getElem? (i := 11) rfl))))))
theorem wx212 : Cond.selects "LookAtClockModel" yX12_sum yX12_sum ∈ mjGXw := List.mem_append_right _ (List.mem_append_right _ (List.mem_append_right _ (List.mem_append_right _ (List.mem_append_right _ (List.mem_append_left _ (List.mem_of_getElem? (i := 12) rfl))))))
theorem wx213 : Cond.code yX11_order cX11_order 3 (some .int) ∈ mjGXw := List.mem_append_right _ (List.mem_append_right _ (List.mem_append_right _ (List.mem_append_right _ (List.mem_append_right _ (List.mem_append_left _ (List.mem_of_getElem? (i := 13) rfl))))))
theorem wx214 : Cond.methodLink "LookAtClockLaw" 126 yX11_order ∈ mjGXw := List.mem_append_right _ (List.mem_append_right _ (List.mem_append_right _ (List.mem_append_right _ (List.mem_append_right _ (List.mem_append_left _ (List.mem_of_getElem? (i := 14) rfl))))))
theorem wx215 : Cond.instanceMethod yX11_order ∈ mjGXw := List.mem_append_right _ (List.mem_append_right _ (List.mem_append_right _ (List.mem_append_right _ (List.mem_append_right _ (List.mem_append_left _ (List.mem_of_getElem? (i := 15) rfl))))))
theorem wx216 : Cond.selects "LookAtClock" yX11_order yX11_order ∈ mjGXw := List.mem_append_right _ (List.mem_append_right _ (List.mem_append_right _ (List.mem_append_right _ (List.mem_append_right _ (List.mem_append_left _ (List.mem_of_getElem? (i := 16) rfl))))))
theorem wx217 : Cond.code yX12_order cX12_order 7 (some .int) ∈ mjGXw := List.mem_append_right _ (List.mem_append_right _ (List.mem_append_right _ (List.mem_append_right _ (List.mem_append_right _ (List.mem_append_left _ (List.mem_of_getElem? (i := 17) rfl))))))
theorem wx218 : Cond.methodLink "LookAtClockLaw" 129 yX12_order ∈ mjGXw := List.mem_append_right _ (List.mem_append_right _ (List.mem_append_right _ (List.mem_append_right _ (List.mem_append_right _ (List.mem_append_left _ (List.mem_of_getElem? (i := 18) rfl))))))
theorem wx219 : Cond.instanceMethod yX12_order ∈ mjGXw := List.mem_append_right _ (List.mem_append_right _ (List.mem_append_right _ (List.mem_append_right _ (List.mem_append_right _ (List.mem_append_left _ (List.mem_of_getElem? (i := 19) rfl))))))
theorem wx220 : Cond.selects "LookAtClockModel" yX12_order yX12_order ∈ mjGXw := List.mem_append_right _ (List.mem_append_right _ (List.mem_append_right _ (List.mem_append_right _ (List.mem_append_right _ (List.mem_append_left _ (List.mem_of_getElem? (i := 20) rfl))))))
theorem wx221 : Cond.code yX11_seeded cX11_seeded 13 (some .int) ∈ mjGXw := List.mem_append_right _ (List.mem_append_right _ (List.mem_append_right _ (List.mem_append_right _ (List.mem_append_right _ (List.mem_append_left _ (List.mem_of_getElem? (i := 21) rfl))))))
theorem wx222 : Cond.methodLink "LookAtClockLaw" 130 yX11_seeded ∈ mjGXw := List.mem_append_right _ (List.mem_append_right _ (List.mem_append_right _ (List.mem_append_right _ (List.mem_append_right _ (List.mem_append_left _ (List.mem_of_getElem? (i := 22) rfl))))))
theorem wx223 : Cond.instanceMethod yX11_seeded ∈ mjGXw := List.mem_append_right _ (List.mem_append_right _ (List.mem_append_right _ (List.mem_append_right _ (List.mem_append_right _ (List.mem_append_left _ (List.mem_of_getElem? (i := 23) rfl))))))
theorem wx224 : Cond.selects "LookAtClock" yX11_seeded yX11_seeded ∈ mjGXw := List.mem_append_right _ (List.mem_append_right _ (List.mem_append_right _ (List.mem_append_right _ (List.mem_append_right _ (List.mem_append_left _ (List.mem_of_getElem? (i := 24) rfl))))))
theorem wx225 : Cond.code yX12_seeded cX12_seeded 12 (some .int) ∈ mjGXw := List.mem_append_right _ (List.mem_append_right _ (List.mem_append_right _ (List.mem_append_right _ (List.mem_append_right _ (List.mem_append_left _ (List.mem_of_getElem? (i := 25) rfl))))))
theorem wx226 : Cond.methodLink "LookAtClockLaw" 133 yX12_seeded ∈ mjGXw := List.mem_append_right _ (List.mem_append_right _ (List.mem_append_right _ (List.mem_append_right _ (List.mem_append_right _ (List.mem_append_left _ (List.mem_of_getElem? (i := 26) rfl))))))
theorem wx227 : Cond.instanceMethod yX12_seeded ∈ mjGXw := List.mem_append_right _ (List.mem_append_right _ (List.mem_append_right _ (List.mem_append_right _ (List.mem_append_right _ (List.mem_append_left _ (List.mem_of_getElem? (i := 27) rfl))))))
theorem wx228 : Cond.selects "LookAtClockModel" yX12_seeded yX12_seeded ∈ mjGXw := List.mem_append_right _ (List.mem_append_right _ (List.mem_append_right _ (List.mem_append_right _ (List.mem_append_right _ (List.mem_append_left _ (List.mem_of_getElem? (i := 28) rfl))))))
theorem wx229 : Cond.code yX11_judge cX11_judge 9 (some .int) ∈ mjGXw := List.mem_append_right _ (List.mem_append_right _ (List.mem_append_right _ (List.mem_append_right _ (List.mem_append_right _ (List.mem_append_left _ (List.mem_of_getElem? (i := 29) rfl))))))
theorem wx230 : Cond.methodLink "LookAtClockLaw" 134 yX11_judge ∈ mjGXw := List.mem_append_right _ (List.mem_append_right _ (List.mem_append_right _ (List.mem_append_right _ (List.mem_append_right _ (List.mem_append_left _ (List.mem_of_getElem? (i := 30) rfl))))))
theorem wx231 : Cond.instanceMethod yX11_judge ∈ mjGXw := List.mem_append_right _ (List.mem_append_right _ (List.mem_append_right _ (List.mem_append_right _ (List.mem_append_right _ (List.mem_append_left _ (List.mem_of_getElem? (i := 31) rfl))))))
theorem wx232 : Cond.selects "LookAtClock" yX11_judge yX11_judge ∈ mjGXw := List.mem_append_right _ (List.mem_append_right _ (List.mem_append_right _ (List.mem_append_right _ (List.mem_append_right _ (List.mem_append_left _ (List.mem_of_getElem? (i := 32) rfl))))))
theorem wx233 : Cond.code yX12_judge cX12_judge 6 (some .int) ∈ mjGXw := List.mem_append_right _ (List.mem_append_right _ (List.mem_append_right _ (List.mem_append_right _ (List.mem_append_right _ (List.mem_append_left _ (List.mem_of_getElem? (i := 33) rfl))))))
theorem wx234 : Cond.methodLink "LookAtClockLaw" 137 yX12_judge ∈ mjGXw := List.mem_append_right _ (List.mem_append_right _ (List.mem_append_right _ (List.mem_append_right _ (List.mem_append_right _ (List.mem_append_left _ (List.mem_of_getElem? (i := 34) rfl))))))
theorem wx235 : Cond.instanceMethod yX12_judge ∈ mjGXw := List.mem_append_right _ (List.mem_append_right _ (List.mem_append_right _ (List.mem_append_right _ (List.mem_append_right _ (List.mem_append_left _ (List.mem_of_getElem? (i := 35) rfl))))))
theorem wx236 : Cond.selects "LookAtClockModel" yX12_judge yX12_judge ∈ mjGXw := List.mem_append_right _ (List.mem_append_right _ (List.mem_append_right _ (List.mem_append_right _ (List.mem_append_right _ (List.mem_append_left _ (List.mem_of_getElem? (i := 36) rfl))))))
theorem wx237 : Cond.code yX11_image cX11_image 1 (some .int) ∈ mjGXw := List.mem_append_right _ (List.mem_append_right _ (List.mem_append_right _ (List.mem_append_right _ (List.mem_append_right _ (List.mem_append_left _ (List.mem_of_getElem? (i := 37) rfl))))))
theorem wx238 : Cond.methodLink "LookAtClockLaw" 138 yX11_image ∈ mjGXw := List.mem_append_right _ (List.mem_append_right _ (List.mem_append_right _ (List.mem_append_right _ (List.mem_append_right _ (List.mem_append_left _ (List.mem_of_getElem? (i := 38) rfl))))))
theorem wx239 : Cond.instanceMethod yX11_image ∈ mjGXw := List.mem_append_right _ (List.mem_append_right _ (List.mem_append_right _ (List.mem_append_right _ (List.mem_append_right _ (List.mem_append_left _ (List.mem_of_getElem? (i := 39) rfl))))))
theorem wx240 : Cond.selects "LookAtClock" yX11_image yX11_image ∈ mjGXw := List.mem_append_right _ (List.mem_append_right _ (List.mem_append_right _ (List.mem_append_right _ (List.mem_append_right _ (List.mem_append_right _ (List.mem_append_left _ (List.mem_of_getElem? (i := 0) rfl)))))))
theorem wx241 : Cond.code yX12_image cX12_image 1 (some .int) ∈ mjGXw := List.mem_append_right _ (List.mem_append_right _ (List.mem_append_right _ (List.mem_append_right _ (List.mem_append_right _ (List.mem_append_right _ (List.mem_append_left _ (List.mem_of_getElem? (i := 1) rfl)))))))
theorem wx242 : Cond.methodLink "LookAtClockLaw" 141 yX12_image ∈ mjGXw := List.mem_append_right _ (List.mem_append_right _ (List.mem_append_right _ (List.mem_append_right _ (List.mem_append_right _ (List.mem_append_right _ (List.mem_append_left _ (List.mem_of_getElem? (i := 2) rfl)))))))
theorem wx243 : Cond.instanceMethod yX12_image ∈ mjGXw := List.mem_append_right _ (List.mem_append_right _ (List.mem_append_right _ (List.mem_append_right _ (List.mem_append_right _ (List.mem_append_right _ (List.mem_append_left _ (List.mem_of_getElem? (i := 3) rfl)))))))
theorem wx244 : Cond.selects "LookAtClockModel" yX12_image yX12_image ∈ mjGXw := List.mem_append_right _ (List.mem_append_right _ (List.mem_append_right _ (List.mem_append_right _ (List.mem_append_right _ (List.mem_append_right _ (List.mem_append_left _ (List.mem_of_getElem? (i := 4) rfl)))))))
theorem wx245 : Cond.code yX11_restore cX11_restore 1 (some .int) ∈ mjGXw := List.mem_append_right _ (List.mem_append_right _ (List.mem_append_right _ (List.mem_append_right _ (List.mem_append_right _ (List.mem_append_right _ (List.mem_append_left _ (List.mem_of_getElem? (i := 5) rfl)))))))
theorem wx246 : Cond.methodLink "LookAtClockLaw" 142 yX11_restore ∈ mjGXw := List.mem_append_right _ (List.mem_append_right _ (List.mem_append_right _ (List.mem_append_right _ (List.mem_append_right _ (List.mem_append_right _ (List.mem_append_left _ (List.mem_of_getElem? (i := 6) rfl)))))))
theorem wx247 : Cond.instanceMethod yX11_restore ∈ mjGXw := List.mem_append_right _ (List.mem_append_right _ (List.mem_append_right _ (List.mem_append_right _ (List.mem_append_right _ (List.mem_append_right _ (List.mem_append_left _ (List.mem_of_getElem? (i := 7) rfl)))))))
theorem wx248 : Cond.selects "LookAtClock" yX11_restore yX11_restore ∈ mjGXw := List.mem_append_right _ (List.mem_append_right _ (List.mem_append_right _ (List.mem_append_right _ (List.mem_append_right _ (List.mem_append_right _ (List.mem_append_left _ (List.mem_of_getElem? (i := 8) rfl)))))))
theorem wx249 : Cond.code yX12_restore cX12_restore 1 (some .int) ∈ mjGXw := List.mem_append_right _ (List.mem_append_right _ (List.mem_append_right _ (List.mem_append_right _ (List.mem_append_right _ (List.mem_append_right _ (List.mem_append_left _ (List.mem_of_getElem? (i := 9) rfl)))))))
theorem wx250 : Cond.methodLink "LookAtClockLaw" 145 yX12_restore ∈ mjGXw := List.mem_append_right _ (List.mem_append_right _ (List.mem_append_right _ (List.mem_append_right _ (List.mem_append_right _ (List.mem_append_right _ (List.mem_append_left _ (List.mem_of_getElem? (i := 10) rfl)))))))
theorem wx251 : Cond.instanceMethod yX12_restore ∈ mjGXw := List.mem_append_right _ (List.mem_append_right _ (List.mem_append_right _ (List.mem_append_right _ (List.mem_append_right _ (List.mem_append_right _ (List.mem_append_left _ (List.mem_of_getElem? (i := 11) rfl)))))))
theorem wx252 : Cond.selects "LookAtClockModel" yX12_restore yX12_restore ∈ mjGXw := List.mem_append_right _ (List.mem_append_right _ (List.mem_append_right _ (List.mem_append_right _ (List.mem_append_right _ (List.mem_append_right _ (List.mem_append_left _ (List.mem_of_getElem? (i := 12) rfl)))))))
theorem wx253 : Cond.code yX11_count cX11_count 2 (some .int) ∈ mjGXw := List.mem_append_right _ (List.mem_append_right _ (List.mem_append_right _ (List.mem_append_right _ (List.mem_append_right _ (List.mem_append_right _ (List.mem_append_left _ (List.mem_of_getElem? (i := 13) rfl)))))))
theorem wx254 : Cond.methodLink "LookAtClockLaw" 146 yX11_count ∈ mjGXw := List.mem_append_right _ (List.mem_append_right _ (List.mem_append_right _ (List.mem_append_right _ (List.mem_append_right _ (List.mem_append_right _ (List.mem_append_left _ (List.mem_of_getElem? (i := 14) rfl)))))))
theorem wx255 : Cond.instanceMethod yX11_count ∈ mjGXw := List.mem_append_right _ (List.mem_append_right _ (List.mem_append_right _ (List.mem_append_right _ (List.mem_append_right _ (List.mem_append_right _ (List.mem_append_left _ (List.mem_of_getElem? (i := 15) rfl)))))))
theorem wx256 : Cond.selects "LookAtClock" yX11_count yX11_count ∈ mjGXw := List.mem_append_right _ (List.mem_append_right _ (List.mem_append_right _ (List.mem_append_right _ (List.mem_append_right _ (List.mem_append_right _ (List.mem_append_left _ (List.mem_of_getElem? (i := 16) rfl)))))))
theorem wx257 : Cond.code yX12_count cX12_count 4 (some .int) ∈ mjGXw := List.mem_append_right _ (List.mem_append_right _ (List.mem_append_right _ (List.mem_append_right _ (List.mem_append_right _ (List.mem_append_right _ (List.mem_append_left _ (List.mem_of_getElem? (i := 17) rfl)))))))
theorem wx258 : Cond.methodLink "LookAtClockLaw" 149 yX12_count ∈ mjGXw := List.mem_append_right _ (List.mem_append_right _ (List.mem_append_right _ (List.mem_append_right _ (List.mem_append_right _ (List.mem_append_right _ (List.mem_append_left _ (List.mem_of_getElem? (i := 18) rfl)))))))
theorem wx259 : Cond.instanceMethod yX12_count ∈ mjGXw := List.mem_append_right _ (List.mem_append_right _ (List.mem_append_right _ (List.mem_append_right _ (List.mem_append_right _ (List.mem_append_right _ (List.mem_append_left _ (List.mem_of_getElem? (i := 19) rfl)))))))
theorem wx260 : Cond.selects "LookAtClockModel" yX12_count yX12_count ∈ mjGXw := List.mem_append_right _ (List.mem_append_right _ (List.mem_append_right _ (List.mem_append_right _ (List.mem_append_right _ (List.mem_append_right _ (List.mem_append_left _ (List.mem_of_getElem? (i := 20) rfl)))))))
theorem wx261 : Cond.code yX11_keep cX11_keep 5 (some .int) ∈ mjGXw := List.mem_append_right _ (List.mem_append_right _ (List.mem_append_right _ (List.mem_append_right _ (List.mem_append_right _ (List.mem_append_right _ (List.mem_append_left _ (List.mem_of_getElem? (i := 21) rfl)))))))
theorem wx262 : Cond.methodLink "LookAtClockLaw" 150 yX11_keep ∈ mjGXw := List.mem_append_right _ (List.mem_append_right _ (List.mem_append_right _ (List.mem_append_right _ (List.mem_append_right _ (List.mem_append_right _ (List.mem_append_left _ (List.mem_of_getElem? (i := 22) rfl)))))))
theorem wx263 : Cond.instanceMethod yX11_keep ∈ mjGXw := List.mem_append_right _ (List.mem_append_right _ (List.mem_append_right _ (List.mem_append_right _ (List.mem_append_right _ (List.mem_append_right _ (List.mem_append_left _ (List.mem_of_getElem? (i := 23) rfl)))))))
theorem wx264 : Cond.selects "LookAtClock" yX11_keep yX11_keep ∈ mjGXw := List.mem_append_right _ (List.mem_append_right _ (List.mem_append_right _ (List.mem_append_right _ (List.mem_append_right _ (List.mem_append_right _ (List.mem_append_left _ (List.mem_of_getElem? (i := 24) rfl)))))))
theorem wx265 : Cond.code yX12_keep cX12_keep 4 (some .int) ∈ mjGXw := List.mem_append_right _ (List.mem_append_right _ (List.mem_append_right _ (List.mem_append_right _ (List.mem_append_right _ (List.mem_append_right _ (List.mem_append_left _ (List.mem_of_getElem? (i := 25) rfl)))))))
theorem wx266 : Cond.methodLink "LookAtClockLaw" 153 yX12_keep ∈ mjGXw := List.mem_append_right _ (List.mem_append_right _ (List.mem_append_right _ (List.mem_append_right _ (List.mem_append_right _ (List.mem_append_right _ (List.mem_append_left _ (List.mem_of_getElem? (i := 26) rfl)))))))
theorem wx267 : Cond.instanceMethod yX12_keep ∈ mjGXw := List.mem_append_right _ (List.mem_append_right _ (List.mem_append_right _ (List.mem_append_right _ (List.mem_append_right _ (List.mem_append_right _ (List.mem_append_left _ (List.mem_of_getElem? (i := 27) rfl)))))))
theorem wx268 : Cond.selects "LookAtClockModel" yX12_keep yX12_keep ∈ mjGXw := List.mem_append_right _ (List.mem_append_right _ (List.mem_append_right _ (List.mem_append_right _ (List.mem_append_right _ (List.mem_append_right _ (List.mem_append_left _ (List.mem_of_getElem? (i := 28) rfl)))))))
theorem wx269 : Cond.code yX11_row cX11_row 4 (some .int) ∈ mjGXw := List.mem_append_right _ (List.mem_append_right _ (List.mem_append_right _ (List.mem_append_right _ (List.mem_append_right _ (List.mem_append_right _ (List.mem_append_left _ (List.mem_of_getElem? (i := 29) rfl)))))))
theorem wx270 : Cond.methodLink "LookAtClockLaw" 154 yX11_row ∈ mjGXw := List.mem_append_right _ (List.mem_append_right _ (List.mem_append_right _ (List.mem_append_right _ (List.mem_append_right _ (List.mem_append_right _ (List.mem_append_left _ (List.mem_of_getElem? (i := 30) rfl)))))))
theorem wx271 : Cond.instanceMethod yX11_row ∈ mjGXw := List.mem_append_right _ (List.mem_append_right _ (List.mem_append_right _ (List.mem_append_right _ (List.mem_append_right _ (List.mem_append_right _ (List.mem_append_left _ (List.mem_of_getElem? (i := 31) rfl)))))))
theorem wx272 : Cond.selects "LookAtClock" yX11_row yX11_row ∈ mjGXw := List.mem_append_right _ (List.mem_append_right _ (List.mem_append_right _ (List.mem_append_right _ (List.mem_append_right _ (List.mem_append_right _ (List.mem_append_left _ (List.mem_of_getElem? (i := 32) rfl)))))))
theorem wx273 : Cond.code yX12_row cX12_row 5 (some .int) ∈ mjGXw := List.mem_append_right _ (List.mem_append_right _ (List.mem_append_right _ (List.mem_append_right _ (List.mem_append_right _ (List.mem_append_right _ (List.mem_append_left _ (List.mem_of_getElem? (i := 33) rfl)))))))
theorem wx274 : Cond.methodLink "LookAtClockLaw" 157 yX12_row ∈ mjGXw := List.mem_append_right _ (List.mem_append_right _ (List.mem_append_right _ (List.mem_append_right _ (List.mem_append_right _ (List.mem_append_right _ (List.mem_append_left _ (List.mem_of_getElem? (i := 34) rfl)))))))
theorem wx275 : Cond.instanceMethod yX12_row ∈ mjGXw := List.mem_append_right _ (List.mem_append_right _ (List.mem_append_right _ (List.mem_append_right _ (List.mem_append_right _ (List.mem_append_right _ (List.mem_append_left _ (List.mem_of_getElem? (i := 35) rfl)))))))
theorem wx276 : Cond.selects "LookAtClockModel" yX12_row yX12_row ∈ mjGXw := List.mem_append_right _ (List.mem_append_right _ (List.mem_append_right _ (List.mem_append_right _ (List.mem_append_right _ (List.mem_append_right _ (List.mem_append_left _ (List.mem_of_getElem? (i := 36) rfl)))))))
theorem wx277 : Cond.code yX11_put cX11_put 6 (some .int) ∈ mjGXw := List.mem_append_right _ (List.mem_append_right _ (List.mem_append_right _ (List.mem_append_right _ (List.mem_append_right _ (List.mem_append_right _ (List.mem_append_left _ (List.mem_of_getElem? (i := 37) rfl)))))))
theorem wx278 : Cond.methodLink "LookAtClockLaw" 158 yX11_put ∈ mjGXw := List.mem_append_right _ (List.mem_append_right _ (List.mem_append_right _ (List.mem_append_right _ (List.mem_append_right _ (List.mem_append_right _ (List.mem_append_left _ (List.mem_of_getElem? (i := 38) rfl)))))))
theorem wx279 : Cond.instanceMethod yX11_put ∈ mjGXw := List.mem_append_right _ (List.mem_append_right _ (List.mem_append_right _ (List.mem_append_right _ (List.mem_append_right _ (List.mem_append_right _ (List.mem_append_left _ (List.mem_of_getElem? (i := 39) rfl)))))))
theorem wx280 : Cond.selects "LookAtClock" yX11_put yX11_put ∈ mjGXw := List.mem_append_right _ (List.mem_append_right _ (List.mem_append_right _ (List.mem_append_right _ (List.mem_append_right _ (List.mem_append_right _ (List.mem_append_right _ (List.mem_append_left _ (List.mem_of_getElem? (i := 0) rfl))))))))
theorem wx281 : Cond.code yX12_put cX12_put 4 (some .int) ∈ mjGXw := List.mem_append_right _ (List.mem_append_right _ (List.mem_append_right _ (List.mem_append_right _ (List.mem_append_right _ (List.mem_append_right _ (List.mem_append_right _ (List.mem_append_left _ (List.mem_of_getElem? (i := 1) rfl))))))))
theorem wx282 : Cond.methodLink "LookAtClockLaw" 161 yX12_put ∈ mjGXw := List.mem_append_right _ (List.mem_append_right _ (List.mem_append_right _ (List.mem_append_right _ (List.mem_append_right _ (List.mem_append_right _ (List.mem_append_right _ (List.mem_append_left _ (List.mem_of_getElem? (i := 2) rfl))))))))
theorem wx283 : Cond.instanceMethod yX12_put ∈ mjGXw := List.mem_append_right _ (List.mem_append_right _ (List.mem_append_right _ (List.mem_append_right _ (List.mem_append_right _ (List.mem_append_right _ (List.mem_append_right _ (List.mem_append_left _ (List.mem_of_getElem? (i := 3) rfl))))))))
theorem wx284 : Cond.selects "LookAtClockModel" yX12_put yX12_put ∈ mjGXw := List.mem_append_right _ (List.mem_append_right _ (List.mem_append_right _ (List.mem_append_right _ (List.mem_append_right _ (List.mem_append_right _ (List.mem_append_right _ (List.mem_append_left _ (List.mem_of_getElem? (i := 4) rfl))))))))
theorem wx285 : Cond.code yX12_element cX12_element 3 (some .long) ∈ mjGXw := List.mem_append_right _ (List.mem_append_right _ (List.mem_append_right _ (List.mem_append_right _ (List.mem_append_right _ (List.mem_append_right _ (List.mem_append_right _ (List.mem_append_left _ (List.mem_of_getElem? (i := 5) rfl))))))))
theorem wx286 : Cond.methodLink "LookAtClockLaw" 167 yX12_element ∈ mjGXw := List.mem_append_right _ (List.mem_append_right _ (List.mem_append_right _ (List.mem_append_right _ (List.mem_append_right _ (List.mem_append_right _ (List.mem_append_right _ (List.mem_append_left _ (List.mem_of_getElem? (i := 6) rfl))))))))
theorem wx287 : Cond.instanceMethod yX12_element ∈ mjGXw := List.mem_append_right _ (List.mem_append_right _ (List.mem_append_right _ (List.mem_append_right _ (List.mem_append_right _ (List.mem_append_right _ (List.mem_append_right _ (List.mem_append_left _ (List.mem_of_getElem? (i := 7) rfl))))))))
theorem wx288 : Cond.selects "LookAtClockModel" yX12_element yX12_element ∈ mjGXw := List.mem_append_right _ (List.mem_append_right _ (List.mem_append_right _ (List.mem_append_right _ (List.mem_append_right _ (List.mem_append_right _ (List.mem_append_right _ (List.mem_append_left _ (List.mem_of_getElem? (i := 8) rfl))))))))
theorem wx289 : Cond.code yX12_thrown cX12_thrown 1 (some .int) ∈ mjGXw := List.mem_append_right _ (List.mem_append_right _ (List.mem_append_right _ (List.mem_append_right _ (List.mem_append_right _ (List.mem_append_right _ (List.mem_append_right _ (List.mem_append_left _ (List.mem_of_getElem? (i := 9) rfl))))))))
theorem wx290 : Cond.methodLink "LookAtClockLaw" 168 yX12_thrown ∈ mjGXw := List.mem_append_right _ (List.mem_append_right _ (List.mem_append_right _ (List.mem_append_right _ (List.mem_append_right _ (List.mem_append_right _ (List.mem_append_right _ (List.mem_append_left _ (List.mem_of_getElem? (i := 10) rfl))))))))
theorem wx291 : Cond.instanceMethod yX12_thrown ∈ mjGXw := List.mem_append_right _ (List.mem_append_right _ (List.mem_append_right _ (List.mem_append_right _ (List.mem_append_right _ (List.mem_append_right _ (List.mem_append_right _ (List.mem_append_left _ (List.mem_of_getElem? (i := 11) rfl))))))))
theorem wx292 : Cond.selects "LookAtClockModel" yX12_thrown yX12_thrown ∈ mjGXw := List.mem_append_right _ (List.mem_append_right _ (List.mem_append_right _ (List.mem_append_right _ (List.mem_append_right _ (List.mem_append_right _ (List.mem_append_right _ (List.mem_append_left _ (List.mem_of_getElem? (i := 12) rfl))))))))
theorem wx293 : Cond.code yX11_copy cX11_copy 8 (some .int) ∈ mjGXw := List.mem_append_right _ (List.mem_append_right _ (List.mem_append_right _ (List.mem_append_right _ (List.mem_append_right _ (List.mem_append_right _ (List.mem_append_right _ (List.mem_append_left _ (List.mem_of_getElem? (i := 13) rfl))))))))
theorem wx294 : Cond.methodLink "LookAtClockLaw" 171 yX11_copy ∈ mjGXw := List.mem_append_right _ (List.mem_append_right _ (List.mem_append_right _ (List.mem_append_right _ (List.mem_append_right _ (List.mem_append_right _ (List.mem_append_right _ (List.mem_append_left _ (List.mem_of_getElem? (i := 14) rfl))))))))
theorem wx295 : Cond.instanceMethod yX11_copy ∈ mjGXw := List.mem_append_right _ (List.mem_append_right _ (List.mem_append_right _ (List.mem_append_right _ (List.mem_append_right _ (List.mem_append_right _ (List.mem_append_right _ (List.mem_append_left _ (List.mem_of_getElem? (i := 15) rfl))))))))
theorem wx296 : Cond.selects "LookAtClock" yX11_copy yX11_copy ∈ mjGXw := List.mem_append_right _ (List.mem_append_right _ (List.mem_append_right _ (List.mem_append_right _ (List.mem_append_right _ (List.mem_append_right _ (List.mem_append_right _ (List.mem_append_left _ (List.mem_of_getElem? (i := 16) rfl))))))))
theorem wx297 : Cond.code yX12_copy cX12_copy 7 (some .int) ∈ mjGXw := List.mem_append_right _ (List.mem_append_right _ (List.mem_append_right _ (List.mem_append_right _ (List.mem_append_right _ (List.mem_append_right _ (List.mem_append_right _ (List.mem_append_left _ (List.mem_of_getElem? (i := 17) rfl))))))))
theorem wx298 : Cond.methodLink "LookAtClockLaw" 175 yX12_copy ∈ mjGXw := List.mem_append_right _ (List.mem_append_right _ (List.mem_append_right _ (List.mem_append_right _ (List.mem_append_right _ (List.mem_append_right _ (List.mem_append_right _ (List.mem_append_left _ (List.mem_of_getElem? (i := 18) rfl))))))))
theorem wx299 : Cond.instanceMethod yX12_copy ∈ mjGXw := List.mem_append_right _ (List.mem_append_right _ (List.mem_append_right _ (List.mem_append_right _ (List.mem_append_right _ (List.mem_append_right _ (List.mem_append_right _ (List.mem_append_left _ (List.mem_of_getElem? (i := 19) rfl))))))))
theorem wx300 : Cond.selects "LookAtClockModel" yX12_copy yX12_copy ∈ mjGXw := List.mem_append_right _ (List.mem_append_right _ (List.mem_append_right _ (List.mem_append_right _ (List.mem_append_right _ (List.mem_append_right _ (List.mem_append_right _ (List.mem_append_left _ (List.mem_of_getElem? (i := 20) rfl))))))))
theorem wx301 : Cond.code yX11_skill cX11_skill 3 (some .int) ∈ mjGXw := List.mem_append_right _ (List.mem_append_right _ (List.mem_append_right _ (List.mem_append_right _ (List.mem_append_right _ (List.mem_append_right _ (List.mem_append_right _ (List.mem_append_left _ (List.mem_of_getElem? (i := 21) rfl))))))))
theorem wx302 : Cond.methodLink "LookAtClockLaw" 176 yX11_skill ∈ mjGXw := List.mem_append_right _ (List.mem_append_right _ (List.mem_append_right _ (List.mem_append_right _ (List.mem_append_right _ (List.mem_append_right _ (List.mem_append_right _ (List.mem_append_left _ (List.mem_of_getElem? (i := 22) rfl))))))))
theorem wx303 : Cond.instanceMethod yX11_skill ∈ mjGXw := List.mem_append_right _ (List.mem_append_right _ (List.mem_append_right _ (List.mem_append_right _ (List.mem_append_right _ (List.mem_append_right _ (List.mem_append_right _ (List.mem_append_left _ (List.mem_of_getElem? (i := 23) rfl))))))))
theorem wx304 : Cond.selects "LookAtClock" yX11_skill yX11_skill ∈ mjGXw := List.mem_append_right _ (List.mem_append_right _ (List.mem_append_right _ (List.mem_append_right _ (List.mem_append_right _ (List.mem_append_right _ (List.mem_append_right _ (List.mem_append_left _ (List.mem_of_getElem? (i := 24) rfl))))))))
theorem wx305 : Cond.code yX12_skill cX12_skill 2 (some .int) ∈ mjGXw := List.mem_append_right _ (List.mem_append_right _ (List.mem_append_right _ (List.mem_append_right _ (List.mem_append_right _ (List.mem_append_right _ (List.mem_append_right _ (List.mem_append_left _ (List.mem_of_getElem? (i := 25) rfl))))))))
theorem wx306 : Cond.methodLink "LookAtClockLaw" 179 yX12_skill ∈ mjGXw := List.mem_append_right _ (List.mem_append_right _ (List.mem_append_right _ (List.mem_append_right _ (List.mem_append_right _ (List.mem_append_right _ (List.mem_append_right _ (List.mem_append_left _ (List.mem_of_getElem? (i := 26) rfl))))))))
theorem wx307 : Cond.instanceMethod yX12_skill ∈ mjGXw := List.mem_append_right _ (List.mem_append_right _ (List.mem_append_right _ (List.mem_append_right _ (List.mem_append_right _ (List.mem_append_right _ (List.mem_append_right _ (List.mem_append_left _ (List.mem_of_getElem? (i := 27) rfl))))))))
theorem wx308 : Cond.selects "LookAtClockModel" yX12_skill yX12_skill ∈ mjGXw := List.mem_append_right _ (List.mem_append_right _ (List.mem_append_right _ (List.mem_append_right _ (List.mem_append_right _ (List.mem_append_right _ (List.mem_append_right _ (List.mem_append_left _ (List.mem_of_getElem? (i := 28) rfl))))))))
theorem wx309 : Cond.code yX12_toss cX12_toss 2 (some .int) ∈ mjGXw := List.mem_append_right _ (List.mem_append_right _ (List.mem_append_right _ (List.mem_append_right _ (List.mem_append_right _ (List.mem_append_right _ (List.mem_append_right _ (List.mem_append_left _ (List.mem_of_getElem? (i := 29) rfl))))))))
theorem wx310 : Cond.methodLink "LookAtClockLaw" 183 yX12_toss ∈ mjGXw := List.mem_append_right _ (List.mem_append_right _ (List.mem_append_right _ (List.mem_append_right _ (List.mem_append_right _ (List.mem_append_right _ (List.mem_append_right _ (List.mem_append_left _ (List.mem_of_getElem? (i := 30) rfl))))))))
theorem wx311 : Cond.instanceMethod yX12_toss ∈ mjGXw := List.mem_append_right _ (List.mem_append_right _ (List.mem_append_right _ (List.mem_append_right _ (List.mem_append_right _ (List.mem_append_right _ (List.mem_append_right _ (List.mem_append_left _ (List.mem_of_getElem? (i := 31) rfl))))))))
theorem wx312 : Cond.selects "LookAtClockModel" yX12_toss yX12_toss ∈ mjGXw := List.mem_append_right _ (List.mem_append_right _ (List.mem_append_right _ (List.mem_append_right _ (List.mem_append_right _ (List.mem_append_right _ (List.mem_append_right _ (List.mem_append_left _ (List.mem_of_getElem? (i := 32) rfl))))))))
theorem wx313 : Cond.classLink "LookAtClock$Best" 17 "java/lang/UnsupportedOperationException" ∈ mjGXw := List.mem_append_right _ (List.mem_append_right _ (List.mem_append_right _ (List.mem_append_right _ (List.mem_append_right _ (List.mem_append_right _ (List.mem_append_right _ (List.mem_append_left _ (List.mem_of_getElem? (i := 33) rfl))))))))
theorem wx314 : Cond.initialized "java/lang/UnsupportedOperationException" ∈ mjGXw := List.mem_append_right _ (List.mem_append_right _ (List.mem_append_right _ (List.mem_append_right _ (List.mem_append_right _ (List.mem_append_right _ (List.mem_append_right _ (List.mem_append_left _ (List.mem_of_getElem? (i := 34) rfl))))))))
theorem wx315 : Cond.classLink "LookAtClock$Looker" 24 "java/lang/IllegalStateException" ∈ mjGXw := List.mem_append_right _ (List.mem_append_right _ (List.mem_append_right _ (List.mem_append_right _ (List.mem_append_right _ (List.mem_append_right _ (List.mem_append_right _ (List.mem_append_left _ (List.mem_of_getElem? (i := 35) rfl))))))))
theorem wx316 : Cond.initialized "java/lang/IllegalStateException" ∈ mjGXw := List.mem_append_right _ (List.mem_append_right _ (List.mem_append_right _ (List.mem_append_right _ (List.mem_append_right _ (List.mem_append_right _ (List.mem_append_right _ (List.mem_append_left _ (List.mem_of_getElem? (i := 36) rfl))))))))
theorem wx317 : Cond.classLink "LookAtClock$Seller" 23 "java/lang/IllegalArgumentException" ∈ mjGXw := List.mem_append_right _ (List.mem_append_right _ (List.mem_append_right _ (List.mem_append_right _ (List.mem_append_right _ (List.mem_append_right _ (List.mem_append_right _ (List.mem_append_left _ (List.mem_of_getElem? (i := 37) rfl))))))))
theorem wx318 : Cond.initialized "java/lang/IllegalArgumentException" ∈ mjGXw := List.mem_append_right _ (List.mem_append_right _ (List.mem_append_right _ (List.mem_append_right _ (List.mem_append_right _ (List.mem_append_right _ (List.mem_append_right _ (List.mem_append_left _ (List.mem_of_getElem? (i := 38) rfl))))))))
theorem wx319 : Cond.classLink "LookAtClock" 248 "java/lang/IllegalArgumentException" ∈ mjGXw := List.mem_append_right _ (List.mem_append_right _ (List.mem_append_right _ (List.mem_append_right _ (List.mem_append_right _ (List.mem_append_right _ (List.mem_append_right _ (List.mem_append_left _ (List.mem_of_getElem? (i := 39) rfl))))))))
theorem wx320 : Cond.classLink "LookAtClock" 255 "java/lang/IllegalStateException" ∈ mjGXw := List.mem_append_right _ (List.mem_append_right _ (List.mem_append_right _ (List.mem_append_right _ (List.mem_append_right _ (List.mem_append_right _ (List.mem_append_right _ (List.mem_append_right _ (List.mem_of_getElem? (i := 0) rfl))))))))
theorem wx321 : Cond.classLink "LookAtClock" 287 "java/lang/UnsupportedOperationException" ∈ mjGXw := List.mem_append_right _ (List.mem_append_right _ (List.mem_append_right _ (List.mem_append_right _ (List.mem_append_right _ (List.mem_append_right _ (List.mem_append_right _ (List.mem_append_right _ (List.mem_of_getElem? (i := 1) rfl))))))))
theorem wx322 : Cond.classLink "LookAtClockLaw" 13 "java/lang/IllegalArgumentException" ∈ mjGXw := List.mem_append_right _ (List.mem_append_right _ (List.mem_append_right _ (List.mem_append_right _ (List.mem_append_right _ (List.mem_append_right _ (List.mem_append_right _ (List.mem_append_right _ (List.mem_of_getElem? (i := 2) rfl))))))))
theorem wx323 : Cond.classLink "LookAtClockLaw" 15 "java/lang/IllegalStateException" ∈ mjGXw := List.mem_append_right _ (List.mem_append_right _ (List.mem_append_right _ (List.mem_append_right _ (List.mem_append_right _ (List.mem_append_right _ (List.mem_append_right _ (List.mem_append_right _ (List.mem_of_getElem? (i := 3) rfl))))))))
theorem wx324 : Cond.methodLink "LookAtClock" 284 yX4_fail ∈ mjGXw := List.mem_append_right _ (List.mem_append_right _ (List.mem_append_right _ (List.mem_append_right _ (List.mem_append_right _ (List.mem_append_right _ (List.mem_append_right _ (List.mem_append_right _ (List.mem_of_getElem? (i := 4) rfl))))))))
theorem wx325 : Cond.methodLink "LookAtClockLaw" 7 yX11_element ∈ mjGXw := List.mem_append_right _ (List.mem_append_right _ (List.mem_append_right _ (List.mem_append_right _ (List.mem_append_right _ (List.mem_append_right _ (List.mem_append_right _ (List.mem_append_right _ (List.mem_of_getElem? (i := 5) rfl))))))))
theorem wx326 : Cond.methodLink "LookAtClockLaw" 180 yX11_toss ∈ mjGXw := List.mem_append_right _ (List.mem_append_right _ (List.mem_append_right _ (List.mem_append_right _ (List.mem_append_right _ (List.mem_append_right _ (List.mem_append_right _ (List.mem_append_right _ (List.mem_of_getElem? (i := 6) rfl))))))))
theorem wx327 : Cond.methodLink "LookAtClockLaw" 162 yL_element ∈ mjGXw := List.mem_append_right _ (List.mem_append_right _ (List.mem_append_right _ (List.mem_append_right _ (List.mem_append_right _ (List.mem_append_right _ (List.mem_append_right _ (List.mem_append_right _ (List.mem_of_getElem? (i := 7) rfl))))))))
theorem wx328 : Cond.instanceMethod yX0_fail ∈ mjGXw := List.mem_append_right _ (List.mem_append_right _ (List.mem_append_right _ (List.mem_append_right _ (List.mem_append_right _ (List.mem_append_right _ (List.mem_append_right _ (List.mem_append_right _ (List.mem_of_getElem? (i := 8) rfl))))))))
theorem wx329 : Cond.instanceMethod yX4_fail ∈ mjGXw := List.mem_append_right _ (List.mem_append_right _ (List.mem_append_right _ (List.mem_append_right _ (List.mem_append_right _ (List.mem_append_right _ (List.mem_append_right _ (List.mem_append_right _ (List.mem_of_getElem? (i := 9) rfl))))))))
theorem wx330 : Cond.instanceMethod yX7_fail ∈ mjGXw := List.mem_append_right _ (List.mem_append_right _ (List.mem_append_right _ (List.mem_append_right _ (List.mem_append_right _ (List.mem_append_right _ (List.mem_append_right _ (List.mem_append_right _ (List.mem_of_getElem? (i := 10) rfl))))))))
theorem wx331 : Cond.instanceMethod yX9_fail ∈ mjGXw := List.mem_append_right _ (List.mem_append_right _ (List.mem_append_right _ (List.mem_append_right _ (List.mem_append_right _ (List.mem_append_right _ (List.mem_append_right _ (List.mem_append_right _ (List.mem_of_getElem? (i := 11) rfl))))))))
theorem wx332 : Cond.instanceMethod yX11_toss ∈ mjGXw := List.mem_append_right _ (List.mem_append_right _ (List.mem_append_right _ (List.mem_append_right _ (List.mem_append_right _ (List.mem_append_right _ (List.mem_append_right _ (List.mem_append_right _ (List.mem_of_getElem? (i := 12) rfl))))))))
theorem wx333 : Cond.instanceMethod yX11_element ∈ mjGXw := List.mem_append_right _ (List.mem_append_right _ (List.mem_append_right _ (List.mem_append_right _ (List.mem_append_right _ (List.mem_append_right _ (List.mem_append_right _ (List.mem_append_right _ (List.mem_of_getElem? (i := 13) rfl))))))))
theorem wx334 : Cond.static yL_element ∈ mjGXw := List.mem_append_right _ (List.mem_append_right _ (List.mem_append_right _ (List.mem_append_right _ (List.mem_append_right _ (List.mem_append_right _ (List.mem_append_right _ (List.mem_append_right _ (List.mem_of_getElem? (i := 14) rfl))))))))
theorem wx335 : Cond.sameMethod "LookAtClock$Looker" "LookAtClock$Looker" "fail" "()V" ∈ mjGXw := List.mem_append_right _ (List.mem_append_right _ (List.mem_append_right _ (List.mem_append_right _ (List.mem_append_right _ (List.mem_append_right _ (List.mem_append_right _ (List.mem_append_right _ (List.mem_of_getElem? (i := 15) rfl))))))))
theorem wx336 : Cond.selects "LookAtClock$Best" yX4_fail yX0_fail ∈ mjGXw := List.mem_append_right _ (List.mem_append_right _ (List.mem_append_right _ (List.mem_append_right _ (List.mem_append_right _ (List.mem_append_right _ (List.mem_append_right _ (List.mem_append_right _ (List.mem_of_getElem? (i := 16) rfl))))))))
theorem wx337 : Cond.selects "LookAtClock$Cheap" yX4_fail yX4_fail ∈ mjGXw := List.mem_append_right _ (List.mem_append_right _ (List.mem_append_right _ (List.mem_append_right _ (List.mem_append_right _ (List.mem_append_right _ (List.mem_append_right _ (List.mem_append_right _ (List.mem_of_getElem? (i := 17) rfl))))))))
theorem wx338 : Cond.selects "LookAtClock$Clock" yX4_fail yX4_fail ∈ mjGXw := List.mem_append_right _ (List.mem_append_right _ (List.mem_append_right _ (List.mem_append_right _ (List.mem_append_right _ (List.mem_append_right _ (List.mem_append_right _ (List.mem_append_right _ (List.mem_of_getElem? (i := 18) rfl))))))))
theorem wx339 : Cond.selects "LookAtClock$Looker" yX4_fail yX4_fail ∈ mjGXw := List.mem_append_right _ (List.mem_append_right _ (List.mem_append_right _ (List.mem_append_right _ (List.mem_append_right _ (List.mem_append_right _ (List.mem_append_right _ (List.mem_append_right _ (List.mem_of_getElem? (i := 19) rfl))))))))
theorem wx340 : Cond.selects "LookAtClock$Never" yX4_fail yX4_fail ∈ mjGXw := List.mem_append_right _ (List.mem_append_right _ (List.mem_append_right _ (List.mem_append_right _ (List.mem_append_right _ (List.mem_append_right _ (List.mem_append_right _ (List.mem_append_right _ (List.mem_of_getElem? (i := 20) rfl))))))))
theorem wx341 : Cond.selects "LookAtClock$Seller" yX4_fail yX7_fail ∈ mjGXw := List.mem_append_right _ (List.mem_append_right _ (List.mem_append_right _ (List.mem_append_right _ (List.mem_append_right _ (List.mem_append_right _ (List.mem_append_right _ (List.mem_append_right _ (List.mem_of_getElem? (i := 21) rfl))))))))
theorem wx342 : Cond.selects "LookAtClock$Share" yX4_fail yX4_fail ∈ mjGXw := List.mem_append_right _ (List.mem_append_right _ (List.mem_append_right _ (List.mem_append_right _ (List.mem_append_right _ (List.mem_append_right _ (List.mem_append_right _ (List.mem_append_right _ (List.mem_of_getElem? (i := 22) rfl))))))))
theorem wx343 : Cond.selects "LookAtClock$Told" yX4_fail yX9_fail ∈ mjGXw := List.mem_append_right _ (List.mem_append_right _ (List.mem_append_right _ (List.mem_append_right _ (List.mem_append_right _ (List.mem_append_right _ (List.mem_append_right _ (List.mem_append_right _ (List.mem_of_getElem? (i := 23) rfl))))))))
theorem wx344 : Cond.selects "LookAtClock" yX11_element yX11_element ∈ mjGXw := List.mem_append_right _ (List.mem_append_right _ (List.mem_append_right _ (List.mem_append_right _ (List.mem_append_right _ (List.mem_append_right _ (List.mem_append_right _ (List.mem_append_right _ (List.mem_of_getElem? (i := 24) rfl))))))))
theorem wx345 : Cond.selects "LookAtClock" yX11_toss yX11_toss ∈ mjGXw := List.mem_append_right _ (List.mem_append_right _ (List.mem_append_right _ (List.mem_append_right _ (List.mem_append_right _ (List.mem_append_right _ (List.mem_append_right _ (List.mem_append_right _ (List.mem_of_getElem? (i := 25) rfl))))))))
theorem wx346 : Cond.initialized "LookAtClockLaw" ∈ mjGXw := List.mem_append_right _ (List.mem_append_right _ (List.mem_append_right _ (List.mem_append_right _ (List.mem_append_right _ (List.mem_append_right _ (List.mem_append_right _ (List.mem_append_right _ (List.mem_of_getElem? (i := 26) rfl))))))))
theorem wx347 : Cond.initialized "LookAtClock$Looker" ∈ mjGXw := List.mem_append_right _ (List.mem_append_right _ (List.mem_append_right _ (List.mem_append_right _ (List.mem_append_right _ (List.mem_append_right _ (List.mem_append_right _ (List.mem_append_right _ (List.mem_of_getElem? (i := 27) rfl))))))))
theorem wx348 : Cond.initialized "LookAtClock$Best" ∈ mjGXw := List.mem_append_right _ (List.mem_append_right _ (List.mem_append_right _ (List.mem_append_right _ (List.mem_append_right _ (List.mem_append_right _ (List.mem_append_right _ (List.mem_append_right _ (List.mem_of_getElem? (i := 28) rfl))))))))
theorem wx349 : Cond.initialized "LookAtClock$Seller" ∈ mjGXw := List.mem_append_right _ (List.mem_append_right _ (List.mem_append_right _ (List.mem_append_right _ (List.mem_append_right _ (List.mem_append_right _ (List.mem_append_right _ (List.mem_append_right _ (List.mem_of_getElem? (i := 29) rfl))))))))
theorem wx350 : Cond.initialized "LookAtClock$Told" ∈ mjGXw := List.mem_append_right _ (List.mem_append_right _ (List.mem_append_right _ (List.mem_append_right _ (List.mem_append_right _ (List.mem_append_right _ (List.mem_append_right _ (List.mem_append_right _ (List.mem_of_getElem? (i := 30) rfl))))))))
theorem mjGXw_all : mjGXw.all goodWord = true := by decide +kernel
theorem nl0 : "LookAtClock" ≠ "java/lang/invoke/MethodHandle" ∧ "LookAtClock" ≠ "java/lang/invoke/VarHandle" ∧ (parseMethodDescriptor "()V").map (fun d => d.parameters.length) = some 0 := by decide +kernel
theorem nl1 : "LookAtClockModel" ≠ "java/lang/invoke/MethodHandle" ∧ "LookAtClockModel" ≠ "java/lang/invoke/VarHandle" ∧ (parseMethodDescriptor "()V").map (fun d => d.parameters.length) = some 0 := by decide +kernel
theorem nl2 : "LookAtClock" = "LookAtClock" ∧ "LookAtClock" ≠ "java/lang/invoke/MethodHandle" ∧ "LookAtClock" ≠ "java/lang/invoke/VarHandle" ∧ (parseMethodDescriptor "(I)I").map (fun d => d.parameters.length) = some 1 := by decide +kernel
theorem nl3 : "LookAtClockModel" = "LookAtClockModel" ∧ "LookAtClockModel" ≠ "java/lang/invoke/MethodHandle" ∧ "LookAtClockModel" ≠ "java/lang/invoke/VarHandle" ∧ (parseMethodDescriptor "(I)I").map (fun d => d.parameters.length) = some 1 := by decide +kernel
theorem nl4 : "LookAtClock" = "LookAtClock" ∧ "LookAtClock" ≠ "java/lang/invoke/MethodHandle" ∧ "LookAtClock" ≠ "java/lang/invoke/VarHandle" ∧ (parseMethodDescriptor "(I)I").map (fun d => d.parameters.length) = some 1 := by decide +kernel
theorem nl5 : "LookAtClockModel" = "LookAtClockModel" ∧ "LookAtClockModel" ≠ "java/lang/invoke/MethodHandle" ∧ "LookAtClockModel" ≠ "java/lang/invoke/VarHandle" ∧ (parseMethodDescriptor "(I)I").map (fun d => d.parameters.length) = some 1 := by decide +kernel
theorem nl6 : "LookAtClock" = "LookAtClock" ∧ "LookAtClock" ≠ "java/lang/invoke/MethodHandle" ∧ "LookAtClock" ≠ "java/lang/invoke/VarHandle" ∧ (parseMethodDescriptor "(I)I").map (fun d => d.parameters.length) = some 1 := by decide +kernel
theorem nl7 : "LookAtClockModel" = "LookAtClockModel" ∧ "LookAtClockModel" ≠ "java/lang/invoke/MethodHandle" ∧ "LookAtClockModel" ≠ "java/lang/invoke/VarHandle" ∧ (parseMethodDescriptor "(I)I").map (fun d => d.parameters.length) = some 1 := by decide +kernel
theorem nl8 : "LookAtClock" = "LookAtClock" ∧ "LookAtClock" ≠ "java/lang/invoke/MethodHandle" ∧ "LookAtClock" ≠ "java/lang/invoke/VarHandle" ∧ (parseMethodDescriptor "(II)I").map (fun d => d.parameters.length) = some 2 := by decide +kernel
theorem nl9 : "LookAtClockModel" = "LookAtClockModel" ∧ "LookAtClockModel" ≠ "java/lang/invoke/MethodHandle" ∧ "LookAtClockModel" ≠ "java/lang/invoke/VarHandle" ∧ (parseMethodDescriptor "(II)I").map (fun d => d.parameters.length) = some 2 := by decide +kernel
theorem nl10 : "LookAtClock" = "LookAtClock" ∧ "LookAtClock" ≠ "java/lang/invoke/MethodHandle" ∧ "LookAtClock" ≠ "java/lang/invoke/VarHandle" ∧ (parseMethodDescriptor "(II)I").map (fun d => d.parameters.length) = some 2 := by decide +kernel
theorem nl11 : "LookAtClockModel" = "LookAtClockModel" ∧ "LookAtClockModel" ≠ "java/lang/invoke/MethodHandle" ∧ "LookAtClockModel" ≠ "java/lang/invoke/VarHandle" ∧ (parseMethodDescriptor "(II)I").map (fun d => d.parameters.length) = some 2 := by decide +kernel
theorem nl12 : "LookAtClock" = "LookAtClock" ∧ "LookAtClock" ≠ "java/lang/invoke/MethodHandle" ∧ "LookAtClock" ≠ "java/lang/invoke/VarHandle" ∧ (parseMethodDescriptor "(I)I").map (fun d => d.parameters.length) = some 1 := by decide +kernel
theorem nl13 : "LookAtClockModel" = "LookAtClockModel" ∧ "LookAtClockModel" ≠ "java/lang/invoke/MethodHandle" ∧ "LookAtClockModel" ≠ "java/lang/invoke/VarHandle" ∧ (parseMethodDescriptor "(I)I").map (fun d => d.parameters.length) = some 1 := by decide +kernel
theorem nl14 : "LookAtClock" = "LookAtClock" ∧ "LookAtClock" ≠ "java/lang/invoke/MethodHandle" ∧ "LookAtClock" ≠ "java/lang/invoke/VarHandle" ∧ (parseMethodDescriptor "(III)I").map (fun d => d.parameters.length) = some 3 := by decide +kernel
theorem nl15 : "LookAtClockModel" = "LookAtClockModel" ∧ "LookAtClockModel" ≠ "java/lang/invoke/MethodHandle" ∧ "LookAtClockModel" ≠ "java/lang/invoke/VarHandle" ∧ (parseMethodDescriptor "(III)I").map (fun d => d.parameters.length) = some 3 := by decide +kernel
theorem nl16 : "LookAtClock" = "LookAtClock" ∧ "LookAtClock" ≠ "java/lang/invoke/MethodHandle" ∧ "LookAtClock" ≠ "java/lang/invoke/VarHandle" ∧ (parseMethodDescriptor "(II)I").map (fun d => d.parameters.length) = some 2 := by decide +kernel
theorem nl17 : "LookAtClockModel" = "LookAtClockModel" ∧ "LookAtClockModel" ≠ "java/lang/invoke/MethodHandle" ∧ "LookAtClockModel" ≠ "java/lang/invoke/VarHandle" ∧ (parseMethodDescriptor "(II)I").map (fun d => d.parameters.length) = some 2 := by decide +kernel
theorem nl18 : "LookAtClock" = "LookAtClock" ∧ "LookAtClock" ≠ "java/lang/invoke/MethodHandle" ∧ "LookAtClock" ≠ "java/lang/invoke/VarHandle" ∧ (parseMethodDescriptor "(II)I").map (fun d => d.parameters.length) = some 2 := by decide +kernel
theorem nl19 : "LookAtClockModel" = "LookAtClockModel" ∧ "LookAtClockModel" ≠ "java/lang/invoke/MethodHandle" ∧ "LookAtClockModel" ≠ "java/lang/invoke/VarHandle" ∧ (parseMethodDescriptor "(II)I").map (fun d => d.parameters.length) = some 2 := by decide +kernel
theorem nl20 : "LookAtClock" = "LookAtClock" ∧ "LookAtClock" ≠ "java/lang/invoke/MethodHandle" ∧ "LookAtClock" ≠ "java/lang/invoke/VarHandle" ∧ (parseMethodDescriptor "(II)I").map (fun d => d.parameters.length) = some 2 := by decide +kernel
theorem nl21 : "LookAtClockModel" = "LookAtClockModel" ∧ "LookAtClockModel" ≠ "java/lang/invoke/MethodHandle" ∧ "LookAtClockModel" ≠ "java/lang/invoke/VarHandle" ∧ (parseMethodDescriptor "(II)I").map (fun d => d.parameters.length) = some 2 := by decide +kernel
theorem nl22 : "LookAtClock" = "LookAtClock" ∧ "LookAtClock" ≠ "java/lang/invoke/MethodHandle" ∧ "LookAtClock" ≠ "java/lang/invoke/VarHandle" ∧ (parseMethodDescriptor "(I)I").map (fun d => d.parameters.length) = some 1 := by decide +kernel
theorem nl23 : "LookAtClockModel" = "LookAtClockModel" ∧ "LookAtClockModel" ≠ "java/lang/invoke/MethodHandle" ∧ "LookAtClockModel" ≠ "java/lang/invoke/VarHandle" ∧ (parseMethodDescriptor "(I)I").map (fun d => d.parameters.length) = some 1 := by decide +kernel
theorem nl24 : "LookAtClock" = "LookAtClock" ∧ "LookAtClock" ≠ "java/lang/invoke/MethodHandle" ∧ "LookAtClock" ≠ "java/lang/invoke/VarHandle" ∧ (parseMethodDescriptor "(I)I").map (fun d => d.parameters.length) = some 1 := by decide +kernel
theorem nl25 : "LookAtClockModel" = "LookAtClockModel" ∧ "LookAtClockModel" ≠ "java/lang/invoke/MethodHandle" ∧ "LookAtClockModel" ≠ "java/lang/invoke/VarHandle" ∧ (parseMethodDescriptor "(I)I").map (fun d => d.parameters.length) = some 1 := by decide +kernel
theorem nl26 : "LookAtClock" = "LookAtClock" ∧ "LookAtClock" ≠ "java/lang/invoke/MethodHandle" ∧ "LookAtClock" ≠ "java/lang/invoke/VarHandle" ∧ (parseMethodDescriptor "(I)I").map (fun d => d.parameters.length) = some 1 := by decide +kernel
theorem nl27 : "LookAtClockModel" = "LookAtClockModel" ∧ "LookAtClockModel" ≠ "java/lang/invoke/MethodHandle" ∧ "LookAtClockModel" ≠ "java/lang/invoke/VarHandle" ∧ (parseMethodDescriptor "(I)I").map (fun d => d.parameters.length) = some 1 := by decide +kernel
theorem nl28 : "LookAtClock" = "LookAtClock" ∧ "LookAtClock" ≠ "java/lang/invoke/MethodHandle" ∧ "LookAtClock" ≠ "java/lang/invoke/VarHandle" ∧ (parseMethodDescriptor "(I)I").map (fun d => d.parameters.length) = some 1 := by decide +kernel
theorem nl29 : "LookAtClockModel" = "LookAtClockModel" ∧ "LookAtClockModel" ≠ "java/lang/invoke/MethodHandle" ∧ "LookAtClockModel" ≠ "java/lang/invoke/VarHandle" ∧ (parseMethodDescriptor "(I)I").map (fun d => d.parameters.length) = some 1 := by decide +kernel
theorem nl30 : "LookAtClock" = "LookAtClock" ∧ "LookAtClock" ≠ "java/lang/invoke/MethodHandle" ∧ "LookAtClock" ≠ "java/lang/invoke/VarHandle" ∧ (parseMethodDescriptor "(II)I").map (fun d => d.parameters.length) = some 2 := by decide +kernel
theorem nl31 : "LookAtClockModel" = "LookAtClockModel" ∧ "LookAtClockModel" ≠ "java/lang/invoke/MethodHandle" ∧ "LookAtClockModel" ≠ "java/lang/invoke/VarHandle" ∧ (parseMethodDescriptor "(II)I").map (fun d => d.parameters.length) = some 2 := by decide +kernel
theorem nl32 : "LookAtClock" = "LookAtClock" ∧ "LookAtClock" ≠ "java/lang/invoke/MethodHandle" ∧ "LookAtClock" ≠ "java/lang/invoke/VarHandle" ∧ (parseMethodDescriptor "(II)I").map (fun d => d.parameters.length) = some 2 := by decide +kernel
theorem nl33 : "LookAtClockModel" = "LookAtClockModel" ∧ "LookAtClockModel" ≠ "java/lang/invoke/MethodHandle" ∧ "LookAtClockModel" ≠ "java/lang/invoke/VarHandle" ∧ (parseMethodDescriptor "(II)I").map (fun d => d.parameters.length) = some 2 := by decide +kernel
theorem nl34 : "LookAtClock" = "LookAtClock" ∧ "LookAtClock" ≠ "java/lang/invoke/MethodHandle" ∧ "LookAtClock" ≠ "java/lang/invoke/VarHandle" ∧ (parseMethodDescriptor "(II)I").map (fun d => d.parameters.length) = some 2 := by decide +kernel
theorem nl35 : "LookAtClockModel" = "LookAtClockModel" ∧ "LookAtClockModel" ≠ "java/lang/invoke/MethodHandle" ∧ "LookAtClockModel" ≠ "java/lang/invoke/VarHandle" ∧ (parseMethodDescriptor "(II)I").map (fun d => d.parameters.length) = some 2 := by decide +kernel
theorem nl36 : "LookAtClock" = "LookAtClock" ∧ "LookAtClock" ≠ "java/lang/invoke/MethodHandle" ∧ "LookAtClock" ≠ "java/lang/invoke/VarHandle" ∧ (parseMethodDescriptor "(II)I").map (fun d => d.parameters.length) = some 2 := by decide +kernel
theorem nl37 : "LookAtClockModel" = "LookAtClockModel" ∧ "LookAtClockModel" ≠ "java/lang/invoke/MethodHandle" ∧ "LookAtClockModel" ≠ "java/lang/invoke/VarHandle" ∧ (parseMethodDescriptor "(II)I").map (fun d => d.parameters.length) = some 2 := by decide +kernel
theorem nl38 : "LookAtClock" = "LookAtClock" ∧ "LookAtClock" ≠ "java/lang/invoke/MethodHandle" ∧ "LookAtClock" ≠ "java/lang/invoke/VarHandle" ∧ (parseMethodDescriptor "(II)I").map (fun d => d.parameters.length) = some 2 := by decide +kernel
theorem nl39 : "LookAtClockModel" = "LookAtClockModel" ∧ "LookAtClockModel" ≠ "java/lang/invoke/MethodHandle" ∧ "LookAtClockModel" ≠ "java/lang/invoke/VarHandle" ∧ (parseMethodDescriptor "(II)I").map (fun d => d.parameters.length) = some 2 := by decide +kernel
theorem nl40 : "LookAtClock" = "LookAtClock" ∧ "LookAtClock" ≠ "java/lang/invoke/MethodHandle" ∧ "LookAtClock" ≠ "java/lang/invoke/VarHandle" ∧ (parseMethodDescriptor "(IIII)I").map (fun d => d.parameters.length) = some 4 := by decide +kernel
theorem nl41 : "LookAtClockModel" = "LookAtClockModel" ∧ "LookAtClockModel" ≠ "java/lang/invoke/MethodHandle" ∧ "LookAtClockModel" ≠ "java/lang/invoke/VarHandle" ∧ (parseMethodDescriptor "(IIII)I").map (fun d => d.parameters.length) = some 4 := by decide +kernel
theorem nl42 : "LookAtClock" = "LookAtClock" ∧ "LookAtClock" ≠ "java/lang/invoke/MethodHandle" ∧ "LookAtClock" ≠ "java/lang/invoke/VarHandle" ∧ (parseMethodDescriptor "(III)I").map (fun d => d.parameters.length) = some 3 := by decide +kernel
theorem nl43 : "LookAtClockModel" = "LookAtClockModel" ∧ "LookAtClockModel" ≠ "java/lang/invoke/MethodHandle" ∧ "LookAtClockModel" ≠ "java/lang/invoke/VarHandle" ∧ (parseMethodDescriptor "(III)I").map (fun d => d.parameters.length) = some 3 := by decide +kernel
theorem nl44 : "LookAtClock" = "LookAtClock" ∧ "LookAtClock" ≠ "java/lang/invoke/MethodHandle" ∧ "LookAtClock" ≠ "java/lang/invoke/VarHandle" ∧ (parseMethodDescriptor "(I)I").map (fun d => d.parameters.length) = some 1 := by decide +kernel
theorem nl45 : "LookAtClockModel" = "LookAtClockModel" ∧ "LookAtClockModel" ≠ "java/lang/invoke/MethodHandle" ∧ "LookAtClockModel" ≠ "java/lang/invoke/VarHandle" ∧ (parseMethodDescriptor "(I)I").map (fun d => d.parameters.length) = some 1 := by decide +kernel
theorem nl46 : "LookAtClock" = "LookAtClock" ∧ "LookAtClock" ≠ "java/lang/invoke/MethodHandle" ∧ "LookAtClock" ≠ "java/lang/invoke/VarHandle" ∧ (parseMethodDescriptor "()I").map (fun d => d.parameters.length) = some 0 := by decide +kernel
theorem nl47 : "LookAtClockModel" = "LookAtClockModel" ∧ "LookAtClockModel" ≠ "java/lang/invoke/MethodHandle" ∧ "LookAtClockModel" ≠ "java/lang/invoke/VarHandle" ∧ (parseMethodDescriptor "()I").map (fun d => d.parameters.length) = some 0 := by decide +kernel
theorem nl48 : "LookAtClock" = "LookAtClock" ∧ "LookAtClock" ≠ "java/lang/invoke/MethodHandle" ∧ "LookAtClock" ≠ "java/lang/invoke/VarHandle" ∧ (parseMethodDescriptor "(II)I").map (fun d => d.parameters.length) = some 2 := by decide +kernel
theorem nl49 : "LookAtClockModel" = "LookAtClockModel" ∧ "LookAtClockModel" ≠ "java/lang/invoke/MethodHandle" ∧ "LookAtClockModel" ≠ "java/lang/invoke/VarHandle" ∧ (parseMethodDescriptor "(II)I").map (fun d => d.parameters.length) = some 2 := by decide +kernel
theorem nl50 : "LookAtClock" = "LookAtClock" ∧ "LookAtClock" ≠ "java/lang/invoke/MethodHandle" ∧ "LookAtClock" ≠ "java/lang/invoke/VarHandle" ∧ (parseMethodDescriptor "()I").map (fun d => d.parameters.length) = some 0 := by decide +kernel
theorem nl51 : "LookAtClockModel" = "LookAtClockModel" ∧ "LookAtClockModel" ≠ "java/lang/invoke/MethodHandle" ∧ "LookAtClockModel" ≠ "java/lang/invoke/VarHandle" ∧ (parseMethodDescriptor "()I").map (fun d => d.parameters.length) = some 0 := by decide +kernel
theorem nl52 : "LookAtClock" = "LookAtClock" ∧ "LookAtClock" ≠ "java/lang/invoke/MethodHandle" ∧ "LookAtClock" ≠ "java/lang/invoke/VarHandle" ∧ (parseMethodDescriptor "()I").map (fun d => d.parameters.length) = some 0 := by decide +kernel
theorem nl53 : "LookAtClockModel" = "LookAtClockModel" ∧ "LookAtClockModel" ≠ "java/lang/invoke/MethodHandle" ∧ "LookAtClockModel" ≠ "java/lang/invoke/VarHandle" ∧ (parseMethodDescriptor "()I").map (fun d => d.parameters.length) = some 0 := by decide +kernel
theorem nl54 : "LookAtClock" = "LookAtClock" ∧ "LookAtClock" ≠ "java/lang/invoke/MethodHandle" ∧ "LookAtClock" ≠ "java/lang/invoke/VarHandle" ∧ (parseMethodDescriptor "(IIII)I").map (fun d => d.parameters.length) = some 4 := by decide +kernel
theorem nl55 : "LookAtClockModel" = "LookAtClockModel" ∧ "LookAtClockModel" ≠ "java/lang/invoke/MethodHandle" ∧ "LookAtClockModel" ≠ "java/lang/invoke/VarHandle" ∧ (parseMethodDescriptor "(IIII)I").map (fun d => d.parameters.length) = some 4 := by decide +kernel
theorem nl56 : "LookAtClock" = "LookAtClock" ∧ "LookAtClock" ≠ "java/lang/invoke/MethodHandle" ∧ "LookAtClock" ≠ "java/lang/invoke/VarHandle" ∧ (parseMethodDescriptor "(II)I").map (fun d => d.parameters.length) = some 2 := by decide +kernel
theorem nl57 : "LookAtClockModel" = "LookAtClockModel" ∧ "LookAtClockModel" ≠ "java/lang/invoke/MethodHandle" ∧ "LookAtClockModel" ≠ "java/lang/invoke/VarHandle" ∧ (parseMethodDescriptor "(II)I").map (fun d => d.parameters.length) = some 2 := by decide +kernel
theorem nl58 : "LookAtClock" = "LookAtClock" ∧ "LookAtClock" ≠ "java/lang/invoke/MethodHandle" ∧ "LookAtClock" ≠ "java/lang/invoke/VarHandle" ∧ (parseMethodDescriptor "()I").map (fun d => d.parameters.length) = some 0 := by decide +kernel
theorem nl59 : "LookAtClockModel" = "LookAtClockModel" ∧ "LookAtClockModel" ≠ "java/lang/invoke/MethodHandle" ∧ "LookAtClockModel" ≠ "java/lang/invoke/VarHandle" ∧ (parseMethodDescriptor "()I").map (fun d => d.parameters.length) = some 0 := by decide +kernel
theorem nl60 : "LookAtClock" = "LookAtClock" ∧ "LookAtClock" ≠ "java/lang/invoke/MethodHandle" ∧ "LookAtClock" ≠ "java/lang/invoke/VarHandle" ∧ (parseMethodDescriptor "()I").map (fun d => d.parameters.length) = some 0 := by decide +kernel
theorem nl61 : "LookAtClockModel" = "LookAtClockModel" ∧ "LookAtClockModel" ≠ "java/lang/invoke/MethodHandle" ∧ "LookAtClockModel" ≠ "java/lang/invoke/VarHandle" ∧ (parseMethodDescriptor "()I").map (fun d => d.parameters.length) = some 0 := by decide +kernel
theorem nl62 : "LookAtClock" = "LookAtClock" ∧ "LookAtClock" ≠ "java/lang/invoke/MethodHandle" ∧ "LookAtClock" ≠ "java/lang/invoke/VarHandle" ∧ (parseMethodDescriptor "(I)I").map (fun d => d.parameters.length) = some 1 := by decide +kernel
theorem nl63 : "LookAtClockModel" = "LookAtClockModel" ∧ "LookAtClockModel" ≠ "java/lang/invoke/MethodHandle" ∧ "LookAtClockModel" ≠ "java/lang/invoke/VarHandle" ∧ (parseMethodDescriptor "(I)I").map (fun d => d.parameters.length) = some 1 := by decide +kernel
theorem nl64 : "LookAtClock" = "LookAtClock" ∧ "LookAtClock" ≠ "java/lang/invoke/MethodHandle" ∧ "LookAtClock" ≠ "java/lang/invoke/VarHandle" ∧ (parseMethodDescriptor "(III)I").map (fun d => d.parameters.length) = some 3 := by decide +kernel
theorem nl65 : "LookAtClockModel" = "LookAtClockModel" ∧ "LookAtClockModel" ≠ "java/lang/invoke/MethodHandle" ∧ "LookAtClockModel" ≠ "java/lang/invoke/VarHandle" ∧ (parseMethodDescriptor "(III)I").map (fun d => d.parameters.length) = some 3 := by decide +kernel
theorem nl66 : "LookAtClock" = "LookAtClock" ∧ "LookAtClock" ≠ "java/lang/invoke/MethodHandle" ∧ "LookAtClock" ≠ "java/lang/invoke/VarHandle" ∧ (parseMethodDescriptor "(III)I").map (fun d => d.parameters.length) = some 3 := by decide +kernel
theorem nl67 : "LookAtClockModel" = "LookAtClockModel" ∧ "LookAtClockModel" ≠ "java/lang/invoke/MethodHandle" ∧ "LookAtClockModel" ≠ "java/lang/invoke/VarHandle" ∧ (parseMethodDescriptor "(III)I").map (fun d => d.parameters.length) = some 3 := by decide +kernel
theorem nl68 : "LookAtClock" = "LookAtClock" ∧ "LookAtClock" ≠ "java/lang/invoke/MethodHandle" ∧ "LookAtClock" ≠ "java/lang/invoke/VarHandle" ∧ (parseMethodDescriptor "(III)I").map (fun d => d.parameters.length) = some 3 := by decide +kernel
theorem nl69 : "LookAtClockModel" = "LookAtClockModel" ∧ "LookAtClockModel" ≠ "java/lang/invoke/MethodHandle" ∧ "LookAtClockModel" ≠ "java/lang/invoke/VarHandle" ∧ (parseMethodDescriptor "(III)I").map (fun d => d.parameters.length) = some 3 := by decide +kernel
theorem nl70 : "LookAtClockModel" = "LookAtClockModel" ∧ "LookAtClockModel" ≠ "java/lang/invoke/MethodHandle" ∧ "LookAtClockModel" ≠ "java/lang/invoke/VarHandle" ∧ (parseMethodDescriptor "(II)J").map (fun d => d.parameters.length) = some 2 := by decide +kernel
theorem nl71 : "LookAtClockModel" = "LookAtClockModel" ∧ "LookAtClockModel" ≠ "java/lang/invoke/MethodHandle" ∧ "LookAtClockModel" ≠ "java/lang/invoke/VarHandle" ∧ (parseMethodDescriptor "()I").map (fun d => d.parameters.length) = some 0 := by decide +kernel
theorem nl72 : "LookAtClock" = "LookAtClock" ∧ "LookAtClock" ≠ "java/lang/invoke/MethodHandle" ∧ "LookAtClock" ≠ "java/lang/invoke/VarHandle" ∧ (parseMethodDescriptor "(IIIII)I").map (fun d => d.parameters.length) = some 5 := by decide +kernel
theorem nl73 : "LookAtClockModel" = "LookAtClockModel" ∧ "LookAtClockModel" ≠ "java/lang/invoke/MethodHandle" ∧ "LookAtClockModel" ≠ "java/lang/invoke/VarHandle" ∧ (parseMethodDescriptor "(IIIII)I").map (fun d => d.parameters.length) = some 5 := by decide +kernel
theorem nl74 : "LookAtClock" = "LookAtClock" ∧ "LookAtClock" ≠ "java/lang/invoke/MethodHandle" ∧ "LookAtClock" ≠ "java/lang/invoke/VarHandle" ∧ (parseMethodDescriptor "(I)I").map (fun d => d.parameters.length) = some 1 := by decide +kernel
theorem nl75 : "LookAtClockModel" = "LookAtClockModel" ∧ "LookAtClockModel" ≠ "java/lang/invoke/MethodHandle" ∧ "LookAtClockModel" ≠ "java/lang/invoke/VarHandle" ∧ (parseMethodDescriptor "(I)I").map (fun d => d.parameters.length) = some 1 := by decide +kernel
theorem nl76 : "LookAtClockModel" = "LookAtClockModel" ∧ "LookAtClockModel" ≠ "java/lang/invoke/MethodHandle" ∧ "LookAtClockModel" ≠ "java/lang/invoke/VarHandle" ∧ (parseMethodDescriptor "(I)I").map (fun d => d.parameters.length) = some 1 := by decide +kernel
theorem tl0 {G : List Cond} (hs : ∀ w ∈ mjGXw, w ∈ G) : mjtb G mjM 76 1 yX11_init cX11_init 2 none := ⟨rfl, (hs _ wx4), by decide, by decide⟩
theorem tl1 {G : List Cond} (hs : ∀ w ∈ mjGXw, w ∈ G) : mjtb G mjM 131 1 yX12_init cX12_init 1 none := ⟨rfl, (hs _ wx10), by decide, by decide⟩
theorem tl2 {G : List Cond} (hs : ∀ w ∈ mjGXw, w ∈ G) : mjtb G mjM 87 2 yX11_town cX11_town 8 (some .int) := ⟨rfl, (hs _ wx13), by decide, by decide⟩
theorem tl3 {G : List Cond} (hs : ∀ w ∈ mjGXw, w ∈ G) : mjtb G mjM 187 2 yX12_town cX12_town 2 (some .int) := ⟨rfl, (hs _ wx17), by decide, by decide⟩
theorem tl4 {G : List Cond} (hs : ∀ w ∈ mjGXw, w ∈ G) : mjtb G mjM 88 2 yX11_price cX11_price 2 (some .int) := ⟨rfl, (hs _ wx21), by decide, by decide⟩
theorem tl5 {G : List Cond} (hs : ∀ w ∈ mjGXw, w ∈ G) : mjtb G mjM 140 2 yX12_price cX12_price 2 (some .int) := ⟨rfl, (hs _ wx25), by decide, by decide⟩
theorem tl6 {G : List Cond} (hs : ∀ w ∈ mjGXw, w ∈ G) : mjtb G mjM 89 2 yX11_law cX11_law 3 (some .int) := ⟨rfl, (hs _ wx29), by decide, by decide⟩
theorem tl7 {G : List Cond} (hs : ∀ w ∈ mjGXw, w ∈ G) : mjtb G mjM 141 2 yX12_law cX12_law 3 (some .int) := ⟨rfl, (hs _ wx33), by decide, by decide⟩
theorem tl8 {G : List Cond} (hs : ∀ w ∈ mjGXw, w ∈ G) : mjtb G mjM 90 3 yX11_work cX11_work 3 (some .int) := ⟨rfl, (hs _ wx37), by decide, by decide⟩
theorem tl9 {G : List Cond} (hs : ∀ w ∈ mjGXw, w ∈ G) : mjtb G mjM 142 3 yX12_work cX12_work 3 (some .int) := ⟨rfl, (hs _ wx41), by decide, by decide⟩
theorem tl10 {G : List Cond} (hs : ∀ w ∈ mjGXw, w ∈ G) : mjtb G mjM 92 3 yX11_looker cX11_looker 4 (some .int) := ⟨rfl, (hs _ wx45), by decide, by decide⟩
theorem tl11 {G : List Cond} (hs : ∀ w ∈ mjGXw, w ∈ G) : mjtb G mjM 144 3 yX12_looker cX12_looker 3 (some .int) := ⟨rfl, (hs _ wx49), by decide, by decide⟩
theorem tl12 {G : List Cond} (hs : ∀ w ∈ mjGXw, w ∈ G) : mjtb G mjM 93 2 yX11_drift cX11_drift 3 (some .int) := ⟨rfl, (hs _ wx53), by decide, by decide⟩
theorem tl13 {G : List Cond} (hs : ∀ w ∈ mjGXw, w ∈ G) : mjtb G mjM 145 2 yX12_drift cX12_drift 2 (some .int) := ⟨rfl, (hs _ wx57), by decide, by decide⟩
theorem tl14 {G : List Cond} (hs : ∀ w ∈ mjGXw, w ∈ G) : mjtb G mjM 94 4 yX11_thinks cX11_thinks 5 (some .int) := ⟨rfl, (hs _ wx61), by decide, by decide⟩
theorem tl15 {G : List Cond} (hs : ∀ w ∈ mjGXw, w ∈ G) : mjtb G mjM 147 4 yX12_thinks cX12_thinks 4 (some .int) := ⟨rfl, (hs _ wx65), by decide, by decide⟩
theorem tl16 {G : List Cond} (hs : ∀ w ∈ mjGXw, w ∈ G) : mjtb G mjM 95 3 yX11_day cX11_day 4 (some .int) := ⟨rfl, (hs _ wx69), by decide, by decide⟩
theorem tl17 {G : List Cond} (hs : ∀ w ∈ mjGXw, w ∈ G) : mjtb G mjM 154 3 yX12_day cX12_day 4 (some .int) := ⟨rfl, (hs _ wx73), by decide, by decide⟩
theorem tl18 {G : List Cond} (hs : ∀ w ∈ mjGXw, w ∈ G) : mjtb G mjM 96 3 yX11_look cX11_look 4 (some .int) := ⟨rfl, (hs _ wx77), by decide, by decide⟩
theorem tl19 {G : List Cond} (hs : ∀ w ∈ mjGXw, w ∈ G) : mjtb G mjM 155 3 yX12_look cX12_look 3 (some .int) := ⟨rfl, (hs _ wx81), by decide, by decide⟩
theorem tl20 {G : List Cond} (hs : ∀ w ∈ mjGXw, w ∈ G) : mjtb G mjM 97 3 yX11_comes cX11_comes 4 (some .int) := ⟨rfl, (hs _ wx85), by decide, by decide⟩
theorem tl21 {G : List Cond} (hs : ∀ w ∈ mjGXw, w ∈ G) : mjtb G mjM 156 3 yX12_comes cX12_comes 3 (some .int) := ⟨rfl, (hs _ wx89), by decide, by decide⟩
theorem tl22 {G : List Cond} (hs : ∀ w ∈ mjGXw, w ∈ G) : mjtb G mjM 98 2 yX11_bestFigure cX11_bestFigure 3 (some .int) := ⟨rfl, (hs _ wx93), by decide, by decide⟩
theorem tl23 {G : List Cond} (hs : ∀ w ∈ mjGXw, w ∈ G) : mjtb G mjM 157 2 yX12_bestFigure cX12_bestFigure 2 (some .int) := ⟨rfl, (hs _ wx97), by decide, by decide⟩
theorem tl24 {G : List Cond} (hs : ∀ w ∈ mjGXw, w ∈ G) : mjtb G mjM 99 2 yX11_always cX11_always 5 (some .int) := ⟨rfl, (hs _ wx101), by decide, by decide⟩
theorem tl25 {G : List Cond} (hs : ∀ w ∈ mjGXw, w ∈ G) : mjtb G mjM 158 2 yX12_always cX12_always 3 (some .int) := ⟨rfl, (hs _ wx105), by decide, by decide⟩
theorem tl26 {G : List Cond} (hs : ∀ w ∈ mjGXw, w ∈ G) : mjtb G mjM 100 2 yX11_pays cX11_pays 4 (some .int) := ⟨rfl, (hs _ wx109), by decide, by decide⟩
theorem tl27 {G : List Cond} (hs : ∀ w ∈ mjGXw, w ∈ G) : mjtb G mjM 159 2 yX12_pays_ cX12_pays_ 2 (some .int) := ⟨rfl, (hs _ wx113), by decide, by decide⟩
theorem tl28 {G : List Cond} (hs : ∀ w ∈ mjGXw, w ∈ G) : mjtb G mjM 101 2 yX11_bestKind cX11_bestKind 6 (some .int) := ⟨rfl, (hs _ wx117), by decide, by decide⟩
theorem tl29 {G : List Cond} (hs : ∀ w ∈ mjGXw, w ∈ G) : mjtb G mjM 160 2 yX12_bestKind cX12_bestKind 6 (some .int) := ⟨rfl, (hs _ wx121), by decide, by decide⟩
theorem tl30 {G : List Cond} (hs : ∀ w ∈ mjGXw, w ∈ G) : mjtb G mjM 102 3 yX11_edge cX11_edge 6 (some .int) := ⟨rfl, (hs _ wx125), by decide, by decide⟩
theorem tl31 {G : List Cond} (hs : ∀ w ∈ mjGXw, w ∈ G) : mjtb G mjM 161 3 yX12_edge cX12_edge 4 (some .int) := ⟨rfl, (hs _ wx129), by decide, by decide⟩
theorem tl32 {G : List Cond} (hs : ∀ w ∈ mjGXw, w ∈ G) : mjtb G mjM 103 3 yX11_waits cX11_waits 4 (some .int) := ⟨rfl, (hs _ wx133), by decide, by decide⟩
theorem tl33 {G : List Cond} (hs : ∀ w ∈ mjGXw, w ∈ G) : mjtb G mjM 162 3 yX12_waits cX12_waits 4 (some .int) := ⟨rfl, (hs _ wx137), by decide, by decide⟩
theorem tl34 {G : List Cond} (hs : ∀ w ∈ mjGXw, w ∈ G) : mjtb G mjM 106 3 yX11_learn cX11_learn 9 (some .int) := ⟨rfl, (hs _ wx141), by decide, by decide⟩
theorem tl35 {G : List Cond} (hs : ∀ w ∈ mjGXw, w ∈ G) : mjtb G mjM 163 3 yX12_learn cX12_learn 11 (some .int) := ⟨rfl, (hs _ wx145), by decide, by decide⟩
theorem tl36 {G : List Cond} (hs : ∀ w ∈ mjGXw, w ∈ G) : mjtb G mjM 107 3 yX11_shared cX11_shared 3 (some .int) := ⟨rfl, (hs _ wx149), by decide, by decide⟩
theorem tl37 {G : List Cond} (hs : ∀ w ∈ mjGXw, w ∈ G) : mjtb G mjM 165 3 yX12_shared cX12_shared 3 (some .int) := ⟨rfl, (hs _ wx153), by decide, by decide⟩
theorem tl38 {G : List Cond} (hs : ∀ w ∈ mjGXw, w ∈ G) : mjtb G mjM 108 3 yX11_nine cX11_nine 5 (some .int) := ⟨rfl, (hs _ wx157), by decide, by decide⟩
theorem tl39 {G : List Cond} (hs : ∀ w ∈ mjGXw, w ∈ G) : mjtb G mjM 166 3 yX12_nine cX12_nine 4 (some .int) := ⟨rfl, (hs _ wx161), by decide, by decide⟩
theorem tl40 {G : List Cond} (hs : ∀ w ∈ mjGXw, w ∈ G) : mjtb G mjM 110 5 yX11_buys cX11_buys 5 (some .int) := ⟨rfl, (hs _ wx165), by decide, by decide⟩
theorem tl41 {G : List Cond} (hs : ∀ w ∈ mjGXw, w ∈ G) : mjtb G mjM 168 5 yX12_buys cX12_buys 5 (some .int) := ⟨rfl, (hs _ wx169), by decide, by decide⟩
theorem tl42 {G : List Cond} (hs : ∀ w ∈ mjGXw, w ∈ G) : mjtb G mjM 111 4 yX11_rest cX11_rest 5 (some .int) := ⟨rfl, (hs _ wx173), by decide, by decide⟩
theorem tl43 {G : List Cond} (hs : ∀ w ∈ mjGXw, w ∈ G) : mjtb G mjM 169 4 yX12_rest cX12_rest 6 (some .int) := ⟨rfl, (hs _ wx177), by decide, by decide⟩
theorem tl44 {G : List Cond} (hs : ∀ w ∈ mjGXw, w ∈ G) : mjtb G mjM 113 2 yX11_cheaper cX11_cheaper 2 (some .int) := ⟨rfl, (hs _ wx181), by decide, by decide⟩
theorem tl45 {G : List Cond} (hs : ∀ w ∈ mjGXw, w ∈ G) : mjtb G mjM 171 2 yX12_cheaper cX12_cheaper 2 (some .int) := ⟨rfl, (hs _ wx185), by decide, by decide⟩
theorem tl46 {G : List Cond} (hs : ∀ w ∈ mjGXw, w ∈ G) : mjtb G mjM 114 1 yX11_otherCheaper cX11_otherCheaper 3 (some .int) := ⟨rfl, (hs _ wx189), by decide, by decide⟩
theorem tl47 {G : List Cond} (hs : ∀ w ∈ mjGXw, w ∈ G) : mjtb G mjM 172 1 yX12_otherCheaper cX12_otherCheaper 3 (some .int) := ⟨rfl, (hs _ wx193), by decide, by decide⟩
theorem tl48 {G : List Cond} (hs : ∀ w ∈ mjGXw, w ∈ G) : mjtb G mjM 115 3 yX11_byLaw cX11_byLaw 4 (some .int) := ⟨rfl, (hs _ wx197), by decide, by decide⟩
theorem tl49 {G : List Cond} (hs : ∀ w ∈ mjGXw, w ∈ G) : mjtb G mjM 173 3 yX12_byLaw cX12_byLaw 3 (some .int) := ⟨rfl, (hs _ wx201), by decide, by decide⟩
theorem tl50 {G : List Cond} (hs : ∀ w ∈ mjGXw, w ∈ G) : mjtb G mjM 117 1 yX11_sum cX11_sum 3 (some .int) := ⟨rfl, (hs _ wx205), by decide, by decide⟩
theorem tl51 {G : List Cond} (hs : ∀ w ∈ mjGXw, w ∈ G) : mjtb G mjM 174 1 yX12_sum cX12_sum 3 (some .int) := ⟨rfl, (hs _ wx209), by decide, by decide⟩
theorem tl52 {G : List Cond} (hs : ∀ w ∈ mjGXw, w ∈ G) : mjtb G mjM 119 1 yX11_order cX11_order 3 (some .int) := ⟨rfl, (hs _ wx213), by decide, by decide⟩
theorem tl53 {G : List Cond} (hs : ∀ w ∈ mjGXw, w ∈ G) : mjtb G mjM 175 1 yX12_order cX12_order 7 (some .int) := ⟨rfl, (hs _ wx217), by decide, by decide⟩
theorem tl54 {G : List Cond} (hs : ∀ w ∈ mjGXw, w ∈ G) : mjtb G mjM 120 5 yX11_seeded cX11_seeded 13 (some .int) := ⟨rfl, (hs _ wx221), by decide, by decide⟩
theorem tl55 {G : List Cond} (hs : ∀ w ∈ mjGXw, w ∈ G) : mjtb G mjM 176 5 yX12_seeded cX12_seeded 12 (some .int) := ⟨rfl, (hs _ wx225), by decide, by decide⟩
theorem tl56 {G : List Cond} (hs : ∀ w ∈ mjGXw, w ∈ G) : mjtb G mjM 121 3 yX11_judge cX11_judge 9 (some .int) := ⟨rfl, (hs _ wx229), by decide, by decide⟩
theorem tl57 {G : List Cond} (hs : ∀ w ∈ mjGXw, w ∈ G) : mjtb G mjM 177 3 yX12_judge cX12_judge 6 (some .int) := ⟨rfl, (hs _ wx233), by decide, by decide⟩
theorem tl58 {G : List Cond} (hs : ∀ w ∈ mjGXw, w ∈ G) : mjtb G mjM 122 1 yX11_image cX11_image 1 (some .int) := ⟨rfl, (hs _ wx237), by decide, by decide⟩
theorem tl59 {G : List Cond} (hs : ∀ w ∈ mjGXw, w ∈ G) : mjtb G mjM 135 1 yX12_image cX12_image 1 (some .int) := ⟨rfl, (hs _ wx241), by decide, by decide⟩
theorem tl60 {G : List Cond} (hs : ∀ w ∈ mjGXw, w ∈ G) : mjtb G mjM 123 1 yX11_restore cX11_restore 1 (some .int) := ⟨rfl, (hs _ wx245), by decide, by decide⟩
theorem tl61 {G : List Cond} (hs : ∀ w ∈ mjGXw, w ∈ G) : mjtb G mjM 136 1 yX12_restore cX12_restore 1 (some .int) := ⟨rfl, (hs _ wx249), by decide, by decide⟩
theorem tl62 {G : List Cond} (hs : ∀ w ∈ mjGXw, w ∈ G) : mjtb G mjM 124 2 yX11_count cX11_count 2 (some .int) := ⟨rfl, (hs _ wx253), by decide, by decide⟩
theorem tl63 {G : List Cond} (hs : ∀ w ∈ mjGXw, w ∈ G) : mjtb G mjM 178 2 yX12_count cX12_count 4 (some .int) := ⟨rfl, (hs _ wx257), by decide, by decide⟩
theorem tl64 {G : List Cond} (hs : ∀ w ∈ mjGXw, w ∈ G) : mjtb G mjM 125 4 yX11_keep cX11_keep 5 (some .int) := ⟨rfl, (hs _ wx261), by decide, by decide⟩
theorem tl65 {G : List Cond} (hs : ∀ w ∈ mjGXw, w ∈ G) : mjtb G mjM 188 4 yX12_keep cX12_keep 4 (some .int) := ⟨rfl, (hs _ wx265), by decide, by decide⟩
theorem tl66 {G : List Cond} (hs : ∀ w ∈ mjGXw, w ∈ G) : mjtb G mjM 126 4 yX11_row cX11_row 4 (some .int) := ⟨rfl, (hs _ wx269), by decide, by decide⟩
theorem tl67 {G : List Cond} (hs : ∀ w ∈ mjGXw, w ∈ G) : mjtb G mjM 189 4 yX12_row cX12_row 5 (some .int) := ⟨rfl, (hs _ wx273), by decide, by decide⟩
theorem tl68 {G : List Cond} (hs : ∀ w ∈ mjGXw, w ∈ G) : mjtb G mjM 127 4 yX11_put cX11_put 6 (some .int) := ⟨rfl, (hs _ wx277), by decide, by decide⟩
theorem tl69 {G : List Cond} (hs : ∀ w ∈ mjGXw, w ∈ G) : mjtb G mjM 190 4 yX12_put cX12_put 4 (some .int) := ⟨rfl, (hs _ wx281), by decide, by decide⟩
theorem tl70 {G : List Cond} (hs : ∀ w ∈ mjGXw, w ∈ G) : mjtb G mjM 192 3 yX12_element cX12_element 3 (some .long) := ⟨rfl, (hs _ wx285), by decide, by decide⟩
theorem tl71 {G : List Cond} (hs : ∀ w ∈ mjGXw, w ∈ G) : mjtb G mjM 191 1 yX12_thrown cX12_thrown 1 (some .int) := ⟨rfl, (hs _ wx289), by decide, by decide⟩
theorem tl72 {G : List Cond} (hs : ∀ w ∈ mjGXw, w ∈ G) : mjtb G mjM 128 6 yX11_copy cX11_copy 8 (some .int) := ⟨rfl, (hs _ wx293), by decide, by decide⟩
theorem tl73 {G : List Cond} (hs : ∀ w ∈ mjGXw, w ∈ G) : mjtb G mjM 193 6 yX12_copy cX12_copy 7 (some .int) := ⟨rfl, (hs _ wx297), by decide, by decide⟩
theorem tl74 {G : List Cond} (hs : ∀ w ∈ mjGXw, w ∈ G) : mjtb G mjM 130 2 yX11_skill cX11_skill 3 (some .int) := ⟨rfl, (hs _ wx301), by decide, by decide⟩
theorem tl75 {G : List Cond} (hs : ∀ w ∈ mjGXw, w ∈ G) : mjtb G mjM 195 2 yX12_skill cX12_skill 2 (some .int) := ⟨rfl, (hs _ wx305), by decide, by decide⟩
theorem tl76 {G : List Cond} (hs : ∀ w ∈ mjGXw, w ∈ G) : mjtb G mjM 196 2 yX12_toss cX12_toss 2 (some .int) := ⟨rfl, (hs _ wx309), by decide, by decide⟩
theorem vx9_0 {G : List Cond} (hs : ∀ w ∈ mjGXw, w ∈ G) : ∀ q ∈ ([(11, 87)] : List (Nat × Nat)), mjvV G mjM "LookAtClockLaw" 21 1 yX11_town q.1 q.2 ∨ mjvU G mjM "LookAtClockLaw" 21 1 yX11_town q.1 q.2 ∨ mjvO G mjM "LookAtClockLaw" 21 1 yX11_town q.1 q.2 := (List.forall_mem_cons.mpr ⟨Or.inl ⟨(RX11, TX11, 10), cX11_town, 8, (some .int), rfl, (tl2 hs), nl2, (hs _ wl14), (hs _ wl15), (hs _ wl16), (hs _ wl2)⟩, (fun _ h => nomatch h)⟩)
theorem vx9_1 {G : List Cond} (hs : ∀ w ∈ mjGXw, w ∈ G) : ∀ q ∈ ([(12, 187)] : List (Nat × Nat)), mjvV G mjM "LookAtClockLaw" 25 1 yX12_town q.1 q.2 ∨ mjvU G mjM "LookAtClockLaw" 25 1 yX12_town q.1 q.2 ∨ mjvO G mjM "LookAtClockLaw" 25 1 yX12_town q.1 q.2 := (List.forall_mem_cons.mpr ⟨Or.inl ⟨(RX12, TX12, 41), cX12_town, 2, (some .int), rfl, (tl3 hs), nl3, (hs _ wl18), (hs _ wl19), (hs _ wl20), (hs _ wl8)⟩, (fun _ h => nomatch h)⟩)
theorem vx9_2 {G : List Cond} (hs : ∀ w ∈ mjGXw, w ∈ G) : ∀ q ∈ ([(11, 88)] : List (Nat × Nat)), mjvV G mjM "LookAtClockLaw" 26 1 yX11_price q.1 q.2 ∨ mjvU G mjM "LookAtClockLaw" 26 1 yX11_price q.1 q.2 ∨ mjvO G mjM "LookAtClockLaw" 26 1 yX11_price q.1 q.2 := (List.forall_mem_cons.mpr ⟨Or.inl ⟨(RX11, TX11, 10), cX11_price, 2, (some .int), rfl, (tl4 hs), nl4, (hs _ wl22), (hs _ wl23), (hs _ wl24), (hs _ wl2)⟩, (fun _ h => nomatch h)⟩)
theorem vx9_3 {G : List Cond} (hs : ∀ w ∈ mjGXw, w ∈ G) : ∀ q ∈ ([(12, 140)] : List (Nat × Nat)), mjvV G mjM "LookAtClockLaw" 29 1 yX12_price q.1 q.2 ∨ mjvU G mjM "LookAtClockLaw" 29 1 yX12_price q.1 q.2 ∨ mjvO G mjM "LookAtClockLaw" 29 1 yX12_price q.1 q.2 := (List.forall_mem_cons.mpr ⟨Or.inl ⟨(RX12, TX12, 41), cX12_price, 2, (some .int), rfl, (tl5 hs), nl5, (hs _ wl26), (hs _ wl27), (hs _ wl28), (hs _ wl8)⟩, (fun _ h => nomatch h)⟩)
theorem vx9_4 {G : List Cond} (hs : ∀ w ∈ mjGXw, w ∈ G) : ∀ q ∈ ([(11, 89)] : List (Nat × Nat)), mjvV G mjM "LookAtClockLaw" 30 1 yX11_law q.1 q.2 ∨ mjvU G mjM "LookAtClockLaw" 30 1 yX11_law q.1 q.2 ∨ mjvO G mjM "LookAtClockLaw" 30 1 yX11_law q.1 q.2 := (List.forall_mem_cons.mpr ⟨Or.inl ⟨(RX11, TX11, 10), cX11_law, 3, (some .int), rfl, (tl6 hs), nl6, (hs _ wl30), (hs _ wl31), (hs _ wl32), (hs _ wl2)⟩, (fun _ h => nomatch h)⟩)
theorem vx9_5 {G : List Cond} (hs : ∀ w ∈ mjGXw, w ∈ G) : ∀ q ∈ ([(12, 141)] : List (Nat × Nat)), mjvV G mjM "LookAtClockLaw" 33 1 yX12_law q.1 q.2 ∨ mjvU G mjM "LookAtClockLaw" 33 1 yX12_law q.1 q.2 ∨ mjvO G mjM "LookAtClockLaw" 33 1 yX12_law q.1 q.2 := (List.forall_mem_cons.mpr ⟨Or.inl ⟨(RX12, TX12, 41), cX12_law, 3, (some .int), rfl, (tl7 hs), nl7, (hs _ wl34), (hs _ wl35), (hs _ wl36), (hs _ wl8)⟩, (fun _ h => nomatch h)⟩)
theorem vx9_6 {G : List Cond} (hs : ∀ w ∈ mjGXw, w ∈ G) : ∀ q ∈ ([(11, 90)] : List (Nat × Nat)), mjvV G mjM "LookAtClockLaw" 34 2 yX11_work q.1 q.2 ∨ mjvU G mjM "LookAtClockLaw" 34 2 yX11_work q.1 q.2 ∨ mjvO G mjM "LookAtClockLaw" 34 2 yX11_work q.1 q.2 := (List.forall_mem_cons.mpr ⟨Or.inl ⟨(RX11, TX11, 10), cX11_work, 3, (some .int), rfl, (tl8 hs), nl8, (hs _ wl38), (hs _ wl39), (hs _ wl40), (hs _ wl2)⟩, (fun _ h => nomatch h)⟩)
theorem vx9_7 {G : List Cond} (hs : ∀ w ∈ mjGXw, w ∈ G) : ∀ q ∈ ([(12, 142)] : List (Nat × Nat)), mjvV G mjM "LookAtClockLaw" 38 2 yX12_work q.1 q.2 ∨ mjvU G mjM "LookAtClockLaw" 38 2 yX12_work q.1 q.2 ∨ mjvO G mjM "LookAtClockLaw" 38 2 yX12_work q.1 q.2 := (List.forall_mem_cons.mpr ⟨Or.inl ⟨(RX12, TX12, 41), cX12_work, 3, (some .int), rfl, (tl9 hs), nl9, (hs _ wl42), (hs _ wl43), (hs _ wl44), (hs _ wl8)⟩, (fun _ h => nomatch h)⟩)
theorem vx9_8 {G : List Cond} (hs : ∀ w ∈ mjGXw, w ∈ G) : ∀ q ∈ ([(11, 92)] : List (Nat × Nat)), mjvV G mjM "LookAtClockLaw" 39 2 yX11_looker q.1 q.2 ∨ mjvU G mjM "LookAtClockLaw" 39 2 yX11_looker q.1 q.2 ∨ mjvO G mjM "LookAtClockLaw" 39 2 yX11_looker q.1 q.2 := (List.forall_mem_cons.mpr ⟨Or.inl ⟨(RX11, TX11, 10), cX11_looker, 4, (some .int), rfl, (tl10 hs), nl10, (hs _ wl46), (hs _ wl47), (hs _ wl48), (hs _ wl2)⟩, (fun _ h => nomatch h)⟩)
theorem vx9_9 {G : List Cond} (hs : ∀ w ∈ mjGXw, w ∈ G) : ∀ q ∈ ([(12, 144)] : List (Nat × Nat)), mjvV G mjM "LookAtClockLaw" 42 2 yX12_looker q.1 q.2 ∨ mjvU G mjM "LookAtClockLaw" 42 2 yX12_looker q.1 q.2 ∨ mjvO G mjM "LookAtClockLaw" 42 2 yX12_looker q.1 q.2 := (List.forall_mem_cons.mpr ⟨Or.inl ⟨(RX12, TX12, 41), cX12_looker, 3, (some .int), rfl, (tl11 hs), nl11, (hs _ wl50), (hs _ wl51), (hs _ wl52), (hs _ wl8)⟩, (fun _ h => nomatch h)⟩)
theorem vx9_10 {G : List Cond} (hs : ∀ w ∈ mjGXw, w ∈ G) : ∀ q ∈ ([(11, 93)] : List (Nat × Nat)), mjvV G mjM "LookAtClockLaw" 43 1 yX11_drift q.1 q.2 ∨ mjvU G mjM "LookAtClockLaw" 43 1 yX11_drift q.1 q.2 ∨ mjvO G mjM "LookAtClockLaw" 43 1 yX11_drift q.1 q.2 := (List.forall_mem_cons.mpr ⟨Or.inl ⟨(RX11, TX11, 10), cX11_drift, 3, (some .int), rfl, (tl12 hs), nl12, (hs _ wl54), (hs _ wl55), (hs _ wl56), (hs _ wl2)⟩, (fun _ h => nomatch h)⟩)
theorem vx9_11 {G : List Cond} (hs : ∀ w ∈ mjGXw, w ∈ G) : ∀ q ∈ ([(12, 145)] : List (Nat × Nat)), mjvV G mjM "LookAtClockLaw" 46 1 yX12_drift q.1 q.2 ∨ mjvU G mjM "LookAtClockLaw" 46 1 yX12_drift q.1 q.2 ∨ mjvO G mjM "LookAtClockLaw" 46 1 yX12_drift q.1 q.2 := (List.forall_mem_cons.mpr ⟨Or.inl ⟨(RX12, TX12, 41), cX12_drift, 2, (some .int), rfl, (tl13 hs), nl13, (hs _ wl58), (hs _ wl59), (hs _ wl60), (hs _ wl8)⟩, (fun _ h => nomatch h)⟩)
theorem vx9_12 {G : List Cond} (hs : ∀ w ∈ mjGXw, w ∈ G) : ∀ q ∈ ([(11, 94)] : List (Nat × Nat)), mjvV G mjM "LookAtClockLaw" 47 3 yX11_thinks q.1 q.2 ∨ mjvU G mjM "LookAtClockLaw" 47 3 yX11_thinks q.1 q.2 ∨ mjvO G mjM "LookAtClockLaw" 47 3 yX11_thinks q.1 q.2 := (List.forall_mem_cons.mpr ⟨Or.inl ⟨(RX11, TX11, 10), cX11_thinks, 5, (some .int), rfl, (tl14 hs), nl14, (hs _ wl62), (hs _ wl63), (hs _ wl64), (hs _ wl2)⟩, (fun _ h => nomatch h)⟩)
theorem vx9_13 {G : List Cond} (hs : ∀ w ∈ mjGXw, w ∈ G) : ∀ q ∈ ([(12, 147)] : List (Nat × Nat)), mjvV G mjM "LookAtClockLaw" 51 3 yX12_thinks q.1 q.2 ∨ mjvU G mjM "LookAtClockLaw" 51 3 yX12_thinks q.1 q.2 ∨ mjvO G mjM "LookAtClockLaw" 51 3 yX12_thinks q.1 q.2 := (List.forall_mem_cons.mpr ⟨Or.inl ⟨(RX12, TX12, 41), cX12_thinks, 4, (some .int), rfl, (tl15 hs), nl15, (hs _ wl66), (hs _ wl67), (hs _ wl68), (hs _ wl8)⟩, (fun _ h => nomatch h)⟩)
theorem vx9_14 {G : List Cond} (hs : ∀ w ∈ mjGXw, w ∈ G) : ∀ q ∈ ([(11, 95)] : List (Nat × Nat)), mjvV G mjM "LookAtClockLaw" 52 2 yX11_day q.1 q.2 ∨ mjvU G mjM "LookAtClockLaw" 52 2 yX11_day q.1 q.2 ∨ mjvO G mjM "LookAtClockLaw" 52 2 yX11_day q.1 q.2 := (List.forall_mem_cons.mpr ⟨Or.inl ⟨(RX11, TX11, 10), cX11_day, 4, (some .int), rfl, (tl16 hs), nl16, (hs _ wl70), (hs _ wl71), (hs _ wl72), (hs _ wl2)⟩, (fun _ h => nomatch h)⟩)
theorem vx9_15 {G : List Cond} (hs : ∀ w ∈ mjGXw, w ∈ G) : ∀ q ∈ ([(12, 154)] : List (Nat × Nat)), mjvV G mjM "LookAtClockLaw" 55 2 yX12_day q.1 q.2 ∨ mjvU G mjM "LookAtClockLaw" 55 2 yX12_day q.1 q.2 ∨ mjvO G mjM "LookAtClockLaw" 55 2 yX12_day q.1 q.2 := (List.forall_mem_cons.mpr ⟨Or.inl ⟨(RX12, TX12, 41), cX12_day, 4, (some .int), rfl, (tl17 hs), nl17, (hs _ wl74), (hs _ wl75), (hs _ wl76), (hs _ wl8)⟩, (fun _ h => nomatch h)⟩)
theorem vx9_16 {G : List Cond} (hs : ∀ w ∈ mjGXw, w ∈ G) : ∀ q ∈ ([(11, 96)] : List (Nat × Nat)), mjvV G mjM "LookAtClockLaw" 56 2 yX11_look q.1 q.2 ∨ mjvU G mjM "LookAtClockLaw" 56 2 yX11_look q.1 q.2 ∨ mjvO G mjM "LookAtClockLaw" 56 2 yX11_look q.1 q.2 := (List.forall_mem_cons.mpr ⟨Or.inl ⟨(RX11, TX11, 10), cX11_look, 4, (some .int), rfl, (tl18 hs), nl18, (hs _ wl78), (hs _ wl79), (hs _ wl80), (hs _ wl2)⟩, (fun _ h => nomatch h)⟩)
theorem vx9_17 {G : List Cond} (hs : ∀ w ∈ mjGXw, w ∈ G) : ∀ q ∈ ([(12, 155)] : List (Nat × Nat)), mjvV G mjM "LookAtClockLaw" 59 2 yX12_look q.1 q.2 ∨ mjvU G mjM "LookAtClockLaw" 59 2 yX12_look q.1 q.2 ∨ mjvO G mjM "LookAtClockLaw" 59 2 yX12_look q.1 q.2 := (List.forall_mem_cons.mpr ⟨Or.inl ⟨(RX12, TX12, 41), cX12_look, 3, (some .int), rfl, (tl19 hs), nl19, (hs _ wl82), (hs _ wl83), (hs _ wl84), (hs _ wl8)⟩, (fun _ h => nomatch h)⟩)
theorem vx9_18 {G : List Cond} (hs : ∀ w ∈ mjGXw, w ∈ G) : ∀ q ∈ ([(11, 97)] : List (Nat × Nat)), mjvV G mjM "LookAtClockLaw" 60 2 yX11_comes q.1 q.2 ∨ mjvU G mjM "LookAtClockLaw" 60 2 yX11_comes q.1 q.2 ∨ mjvO G mjM "LookAtClockLaw" 60 2 yX11_comes q.1 q.2 := (List.forall_mem_cons.mpr ⟨Or.inl ⟨(RX11, TX11, 10), cX11_comes, 4, (some .int), rfl, (tl20 hs), nl20, (hs _ wl86), (hs _ wl87), (hs _ wl88), (hs _ wl2)⟩, (fun _ h => nomatch h)⟩)
theorem vx9_19 {G : List Cond} (hs : ∀ w ∈ mjGXw, w ∈ G) : ∀ q ∈ ([(12, 156)] : List (Nat × Nat)), mjvV G mjM "LookAtClockLaw" 63 2 yX12_comes q.1 q.2 ∨ mjvU G mjM "LookAtClockLaw" 63 2 yX12_comes q.1 q.2 ∨ mjvO G mjM "LookAtClockLaw" 63 2 yX12_comes q.1 q.2 := (List.forall_mem_cons.mpr ⟨Or.inl ⟨(RX12, TX12, 41), cX12_comes, 3, (some .int), rfl, (tl21 hs), nl21, (hs _ wl90), (hs _ wl91), (hs _ wl92), (hs _ wl8)⟩, (fun _ h => nomatch h)⟩)
theorem vx9_20 {G : List Cond} (hs : ∀ w ∈ mjGXw, w ∈ G) : ∀ q ∈ ([(11, 98)] : List (Nat × Nat)), mjvV G mjM "LookAtClockLaw" 64 1 yX11_bestFigure q.1 q.2 ∨ mjvU G mjM "LookAtClockLaw" 64 1 yX11_bestFigure q.1 q.2 ∨ mjvO G mjM "LookAtClockLaw" 64 1 yX11_bestFigure q.1 q.2 := (List.forall_mem_cons.mpr ⟨Or.inl ⟨(RX11, TX11, 10), cX11_bestFigure, 3, (some .int), rfl, (tl22 hs), nl22, (hs _ wl94), (hs _ wl95), (hs _ wl96), (hs _ wl2)⟩, (fun _ h => nomatch h)⟩)
theorem vx9_21 {G : List Cond} (hs : ∀ w ∈ mjGXw, w ∈ G) : ∀ q ∈ ([(12, 157)] : List (Nat × Nat)), mjvV G mjM "LookAtClockLaw" 67 1 yX12_bestFigure q.1 q.2 ∨ mjvU G mjM "LookAtClockLaw" 67 1 yX12_bestFigure q.1 q.2 ∨ mjvO G mjM "LookAtClockLaw" 67 1 yX12_bestFigure q.1 q.2 := (List.forall_mem_cons.mpr ⟨Or.inl ⟨(RX12, TX12, 41), cX12_bestFigure, 2, (some .int), rfl, (tl23 hs), nl23, (hs _ wl98), (hs _ wl99), (hs _ wl100), (hs _ wl8)⟩, (fun _ h => nomatch h)⟩)
theorem vx9_22 {G : List Cond} (hs : ∀ w ∈ mjGXw, w ∈ G) : ∀ q ∈ ([(11, 99)] : List (Nat × Nat)), mjvV G mjM "LookAtClockLaw" 68 1 yX11_always q.1 q.2 ∨ mjvU G mjM "LookAtClockLaw" 68 1 yX11_always q.1 q.2 ∨ mjvO G mjM "LookAtClockLaw" 68 1 yX11_always q.1 q.2 := (List.forall_mem_cons.mpr ⟨Or.inl ⟨(RX11, TX11, 10), cX11_always, 5, (some .int), rfl, (tl24 hs), nl24, (hs _ wl102), (hs _ wl103), (hs _ wl104), (hs _ wl2)⟩, (fun _ h => nomatch h)⟩)
theorem vx9_23 {G : List Cond} (hs : ∀ w ∈ mjGXw, w ∈ G) : ∀ q ∈ ([(12, 158)] : List (Nat × Nat)), mjvV G mjM "LookAtClockLaw" 71 1 yX12_always q.1 q.2 ∨ mjvU G mjM "LookAtClockLaw" 71 1 yX12_always q.1 q.2 ∨ mjvO G mjM "LookAtClockLaw" 71 1 yX12_always q.1 q.2 := (List.forall_mem_cons.mpr ⟨Or.inl ⟨(RX12, TX12, 41), cX12_always, 3, (some .int), rfl, (tl25 hs), nl25, (hs _ wl106), (hs _ wl107), (hs _ wl108), (hs _ wl8)⟩, (fun _ h => nomatch h)⟩)
theorem vx9_24 {G : List Cond} (hs : ∀ w ∈ mjGXw, w ∈ G) : ∀ q ∈ ([(11, 100)] : List (Nat × Nat)), mjvV G mjM "LookAtClockLaw" 72 1 yX11_pays q.1 q.2 ∨ mjvU G mjM "LookAtClockLaw" 72 1 yX11_pays q.1 q.2 ∨ mjvO G mjM "LookAtClockLaw" 72 1 yX11_pays q.1 q.2 := (List.forall_mem_cons.mpr ⟨Or.inl ⟨(RX11, TX11, 10), cX11_pays, 4, (some .int), rfl, (tl26 hs), nl26, (hs _ wl110), (hs _ wl111), (hs _ wl112), (hs _ wl2)⟩, (fun _ h => nomatch h)⟩)
theorem vx9_25 {G : List Cond} (hs : ∀ w ∈ mjGXw, w ∈ G) : ∀ q ∈ ([(12, 159)] : List (Nat × Nat)), mjvV G mjM "LookAtClockLaw" 75 1 yX12_pays_ q.1 q.2 ∨ mjvU G mjM "LookAtClockLaw" 75 1 yX12_pays_ q.1 q.2 ∨ mjvO G mjM "LookAtClockLaw" 75 1 yX12_pays_ q.1 q.2 := (List.forall_mem_cons.mpr ⟨Or.inl ⟨(RX12, TX12, 41), cX12_pays_, 2, (some .int), rfl, (tl27 hs), nl27, (hs _ wl114), (hs _ wl115), (hs _ wl116), (hs _ wl8)⟩, (fun _ h => nomatch h)⟩)
theorem vx9_26 {G : List Cond} (hs : ∀ w ∈ mjGXw, w ∈ G) : ∀ q ∈ ([(11, 101)] : List (Nat × Nat)), mjvV G mjM "LookAtClockLaw" 76 1 yX11_bestKind q.1 q.2 ∨ mjvU G mjM "LookAtClockLaw" 76 1 yX11_bestKind q.1 q.2 ∨ mjvO G mjM "LookAtClockLaw" 76 1 yX11_bestKind q.1 q.2 := (List.forall_mem_cons.mpr ⟨Or.inl ⟨(RX11, TX11, 10), cX11_bestKind, 6, (some .int), rfl, (tl28 hs), nl28, (hs _ wl118), (hs _ wl119), (hs _ wl120), (hs _ wl2)⟩, (fun _ h => nomatch h)⟩)
theorem vx9_27 {G : List Cond} (hs : ∀ w ∈ mjGXw, w ∈ G) : ∀ q ∈ ([(12, 160)] : List (Nat × Nat)), mjvV G mjM "LookAtClockLaw" 79 1 yX12_bestKind q.1 q.2 ∨ mjvU G mjM "LookAtClockLaw" 79 1 yX12_bestKind q.1 q.2 ∨ mjvO G mjM "LookAtClockLaw" 79 1 yX12_bestKind q.1 q.2 := (List.forall_mem_cons.mpr ⟨Or.inl ⟨(RX12, TX12, 41), cX12_bestKind, 6, (some .int), rfl, (tl29 hs), nl29, (hs _ wl122), (hs _ wl123), (hs _ wl124), (hs _ wl8)⟩, (fun _ h => nomatch h)⟩)
theorem vx9_28 {G : List Cond} (hs : ∀ w ∈ mjGXw, w ∈ G) : ∀ q ∈ ([(11, 102)] : List (Nat × Nat)), mjvV G mjM "LookAtClockLaw" 80 2 yX11_edge q.1 q.2 ∨ mjvU G mjM "LookAtClockLaw" 80 2 yX11_edge q.1 q.2 ∨ mjvO G mjM "LookAtClockLaw" 80 2 yX11_edge q.1 q.2 := (List.forall_mem_cons.mpr ⟨Or.inl ⟨(RX11, TX11, 10), cX11_edge, 6, (some .int), rfl, (tl30 hs), nl30, (hs _ wl126), (hs _ wl127), (hs _ wl128), (hs _ wl2)⟩, (fun _ h => nomatch h)⟩)
theorem vx9_29 {G : List Cond} (hs : ∀ w ∈ mjGXw, w ∈ G) : ∀ q ∈ ([(12, 161)] : List (Nat × Nat)), mjvV G mjM "LookAtClockLaw" 83 2 yX12_edge q.1 q.2 ∨ mjvU G mjM "LookAtClockLaw" 83 2 yX12_edge q.1 q.2 ∨ mjvO G mjM "LookAtClockLaw" 83 2 yX12_edge q.1 q.2 := (List.forall_mem_cons.mpr ⟨Or.inl ⟨(RX12, TX12, 41), cX12_edge, 4, (some .int), rfl, (tl31 hs), nl31, (hs _ wl130), (hs _ wl131), (hs _ wl132), (hs _ wl8)⟩, (fun _ h => nomatch h)⟩)
theorem vx9_30 {G : List Cond} (hs : ∀ w ∈ mjGXw, w ∈ G) : ∀ q ∈ ([(11, 103)] : List (Nat × Nat)), mjvV G mjM "LookAtClockLaw" 84 2 yX11_waits q.1 q.2 ∨ mjvU G mjM "LookAtClockLaw" 84 2 yX11_waits q.1 q.2 ∨ mjvO G mjM "LookAtClockLaw" 84 2 yX11_waits q.1 q.2 := (List.forall_mem_cons.mpr ⟨Or.inl ⟨(RX11, TX11, 10), cX11_waits, 4, (some .int), rfl, (tl32 hs), nl32, (hs _ wl134), (hs _ wl135), (hs _ wl136), (hs _ wl2)⟩, (fun _ h => nomatch h)⟩)
theorem vx9_31 {G : List Cond} (hs : ∀ w ∈ mjGXw, w ∈ G) : ∀ q ∈ ([(12, 162)] : List (Nat × Nat)), mjvV G mjM "LookAtClockLaw" 87 2 yX12_waits q.1 q.2 ∨ mjvU G mjM "LookAtClockLaw" 87 2 yX12_waits q.1 q.2 ∨ mjvO G mjM "LookAtClockLaw" 87 2 yX12_waits q.1 q.2 := (List.forall_mem_cons.mpr ⟨Or.inl ⟨(RX12, TX12, 41), cX12_waits, 4, (some .int), rfl, (tl33 hs), nl33, (hs _ wl138), (hs _ wl139), (hs _ wl140), (hs _ wl8)⟩, (fun _ h => nomatch h)⟩)
theorem vx9_32 {G : List Cond} (hs : ∀ w ∈ mjGXw, w ∈ G) : ∀ q ∈ ([(11, 106)] : List (Nat × Nat)), mjvV G mjM "LookAtClockLaw" 88 2 yX11_learn q.1 q.2 ∨ mjvU G mjM "LookAtClockLaw" 88 2 yX11_learn q.1 q.2 ∨ mjvO G mjM "LookAtClockLaw" 88 2 yX11_learn q.1 q.2 := (List.forall_mem_cons.mpr ⟨Or.inl ⟨(RX11, TX11, 10), cX11_learn, 9, (some .int), rfl, (tl34 hs), nl34, (hs _ wl142), (hs _ wl143), (hs _ wl144), (hs _ wl2)⟩, (fun _ h => nomatch h)⟩)
theorem vx9_33 {G : List Cond} (hs : ∀ w ∈ mjGXw, w ∈ G) : ∀ q ∈ ([(12, 163)] : List (Nat × Nat)), mjvV G mjM "LookAtClockLaw" 91 2 yX12_learn q.1 q.2 ∨ mjvU G mjM "LookAtClockLaw" 91 2 yX12_learn q.1 q.2 ∨ mjvO G mjM "LookAtClockLaw" 91 2 yX12_learn q.1 q.2 := (List.forall_mem_cons.mpr ⟨Or.inl ⟨(RX12, TX12, 41), cX12_learn, 11, (some .int), rfl, (tl35 hs), nl35, (hs _ wl146), (hs _ wl147), (hs _ wl148), (hs _ wl8)⟩, (fun _ h => nomatch h)⟩)
theorem vx9_34 {G : List Cond} (hs : ∀ w ∈ mjGXw, w ∈ G) : ∀ q ∈ ([(11, 107)] : List (Nat × Nat)), mjvV G mjM "LookAtClockLaw" 92 2 yX11_shared q.1 q.2 ∨ mjvU G mjM "LookAtClockLaw" 92 2 yX11_shared q.1 q.2 ∨ mjvO G mjM "LookAtClockLaw" 92 2 yX11_shared q.1 q.2 := (List.forall_mem_cons.mpr ⟨Or.inl ⟨(RX11, TX11, 10), cX11_shared, 3, (some .int), rfl, (tl36 hs), nl36, (hs _ wl150), (hs _ wl151), (hs _ wl152), (hs _ wl2)⟩, (fun _ h => nomatch h)⟩)
theorem vx9_35 {G : List Cond} (hs : ∀ w ∈ mjGXw, w ∈ G) : ∀ q ∈ ([(12, 165)] : List (Nat × Nat)), mjvV G mjM "LookAtClockLaw" 95 2 yX12_shared q.1 q.2 ∨ mjvU G mjM "LookAtClockLaw" 95 2 yX12_shared q.1 q.2 ∨ mjvO G mjM "LookAtClockLaw" 95 2 yX12_shared q.1 q.2 := (List.forall_mem_cons.mpr ⟨Or.inl ⟨(RX12, TX12, 41), cX12_shared, 3, (some .int), rfl, (tl37 hs), nl37, (hs _ wl154), (hs _ wl155), (hs _ wl156), (hs _ wl8)⟩, (fun _ h => nomatch h)⟩)
theorem vx9_36 {G : List Cond} (hs : ∀ w ∈ mjGXw, w ∈ G) : ∀ q ∈ ([(11, 108)] : List (Nat × Nat)), mjvV G mjM "LookAtClockLaw" 96 2 yX11_nine q.1 q.2 ∨ mjvU G mjM "LookAtClockLaw" 96 2 yX11_nine q.1 q.2 ∨ mjvO G mjM "LookAtClockLaw" 96 2 yX11_nine q.1 q.2 := (List.forall_mem_cons.mpr ⟨Or.inl ⟨(RX11, TX11, 10), cX11_nine, 5, (some .int), rfl, (tl38 hs), nl38, (hs _ wl158), (hs _ wl159), (hs _ wl160), (hs _ wl2)⟩, (fun _ h => nomatch h)⟩)
theorem vx9_37 {G : List Cond} (hs : ∀ w ∈ mjGXw, w ∈ G) : ∀ q ∈ ([(12, 166)] : List (Nat × Nat)), mjvV G mjM "LookAtClockLaw" 99 2 yX12_nine q.1 q.2 ∨ mjvU G mjM "LookAtClockLaw" 99 2 yX12_nine q.1 q.2 ∨ mjvO G mjM "LookAtClockLaw" 99 2 yX12_nine q.1 q.2 := (List.forall_mem_cons.mpr ⟨Or.inl ⟨(RX12, TX12, 41), cX12_nine, 4, (some .int), rfl, (tl39 hs), nl39, (hs _ wl162), (hs _ wl163), (hs _ wl164), (hs _ wl8)⟩, (fun _ h => nomatch h)⟩)
theorem vx9_38 {G : List Cond} (hs : ∀ w ∈ mjGXw, w ∈ G) : ∀ q ∈ ([(11, 110)] : List (Nat × Nat)), mjvV G mjM "LookAtClockLaw" 100 4 yX11_buys q.1 q.2 ∨ mjvU G mjM "LookAtClockLaw" 100 4 yX11_buys q.1 q.2 ∨ mjvO G mjM "LookAtClockLaw" 100 4 yX11_buys q.1 q.2 := (List.forall_mem_cons.mpr ⟨Or.inl ⟨(RX11, TX11, 10), cX11_buys, 5, (some .int), rfl, (tl40 hs), nl40, (hs _ wl166), (hs _ wl167), (hs _ wl168), (hs _ wl2)⟩, (fun _ h => nomatch h)⟩)
theorem vx9_39 {G : List Cond} (hs : ∀ w ∈ mjGXw, w ∈ G) : ∀ q ∈ ([(12, 168)] : List (Nat × Nat)), mjvV G mjM "LookAtClockLaw" 104 4 yX12_buys q.1 q.2 ∨ mjvU G mjM "LookAtClockLaw" 104 4 yX12_buys q.1 q.2 ∨ mjvO G mjM "LookAtClockLaw" 104 4 yX12_buys q.1 q.2 := (List.forall_mem_cons.mpr ⟨Or.inl ⟨(RX12, TX12, 41), cX12_buys, 5, (some .int), rfl, (tl41 hs), nl41, (hs _ wl170), (hs _ wl171), (hs _ wl172), (hs _ wl8)⟩, (fun _ h => nomatch h)⟩)
theorem vx9_40 {G : List Cond} (hs : ∀ w ∈ mjGXw, w ∈ G) : ∀ q ∈ ([(11, 111)] : List (Nat × Nat)), mjvV G mjM "LookAtClockLaw" 105 3 yX11_rest q.1 q.2 ∨ mjvU G mjM "LookAtClockLaw" 105 3 yX11_rest q.1 q.2 ∨ mjvO G mjM "LookAtClockLaw" 105 3 yX11_rest q.1 q.2 := (List.forall_mem_cons.mpr ⟨Or.inl ⟨(RX11, TX11, 10), cX11_rest, 5, (some .int), rfl, (tl42 hs), nl42, (hs _ wl174), (hs _ wl175), (hs _ wl176), (hs _ wl2)⟩, (fun _ h => nomatch h)⟩)
theorem vx9_41 {G : List Cond} (hs : ∀ w ∈ mjGXw, w ∈ G) : ∀ q ∈ ([(12, 169)] : List (Nat × Nat)), mjvV G mjM "LookAtClockLaw" 108 3 yX12_rest q.1 q.2 ∨ mjvU G mjM "LookAtClockLaw" 108 3 yX12_rest q.1 q.2 ∨ mjvO G mjM "LookAtClockLaw" 108 3 yX12_rest q.1 q.2 := (List.forall_mem_cons.mpr ⟨Or.inl ⟨(RX12, TX12, 41), cX12_rest, 6, (some .int), rfl, (tl43 hs), nl43, (hs _ wl178), (hs _ wl179), (hs _ wl180), (hs _ wl8)⟩, (fun _ h => nomatch h)⟩)
theorem vx9_42 {G : List Cond} (hs : ∀ w ∈ mjGXw, w ∈ G) : ∀ q ∈ ([(11, 113)] : List (Nat × Nat)), mjvV G mjM "LookAtClockLaw" 109 1 yX11_cheaper q.1 q.2 ∨ mjvU G mjM "LookAtClockLaw" 109 1 yX11_cheaper q.1 q.2 ∨ mjvO G mjM "LookAtClockLaw" 109 1 yX11_cheaper q.1 q.2 := (List.forall_mem_cons.mpr ⟨Or.inl ⟨(RX11, TX11, 10), cX11_cheaper, 2, (some .int), rfl, (tl44 hs), nl44, (hs _ wl182), (hs _ wl183), (hs _ wl184), (hs _ wl2)⟩, (fun _ h => nomatch h)⟩)
theorem vx9_43 {G : List Cond} (hs : ∀ w ∈ mjGXw, w ∈ G) : ∀ q ∈ ([(12, 171)] : List (Nat × Nat)), mjvV G mjM "LookAtClockLaw" 112 1 yX12_cheaper q.1 q.2 ∨ mjvU G mjM "LookAtClockLaw" 112 1 yX12_cheaper q.1 q.2 ∨ mjvO G mjM "LookAtClockLaw" 112 1 yX12_cheaper q.1 q.2 := (List.forall_mem_cons.mpr ⟨Or.inl ⟨(RX12, TX12, 41), cX12_cheaper, 2, (some .int), rfl, (tl45 hs), nl45, (hs _ wl186), (hs _ wl187), (hs _ wl188), (hs _ wl8)⟩, (fun _ h => nomatch h)⟩)
theorem vx9_44 {G : List Cond} (hs : ∀ w ∈ mjGXw, w ∈ G) : ∀ q ∈ ([(11, 114)] : List (Nat × Nat)), mjvV G mjM "LookAtClockLaw" 113 0 yX11_otherCheaper q.1 q.2 ∨ mjvU G mjM "LookAtClockLaw" 113 0 yX11_otherCheaper q.1 q.2 ∨ mjvO G mjM "LookAtClockLaw" 113 0 yX11_otherCheaper q.1 q.2 := (List.forall_mem_cons.mpr ⟨Or.inl ⟨(RX11, TX11, 10), cX11_otherCheaper, 3, (some .int), rfl, (tl46 hs), nl46, (hs _ wl190), (hs _ wl191), (hs _ wl192), (hs _ wl2)⟩, (fun _ h => nomatch h)⟩)
theorem vx9_45 {G : List Cond} (hs : ∀ w ∈ mjGXw, w ∈ G) : ∀ q ∈ ([(12, 172)] : List (Nat × Nat)), mjvV G mjM "LookAtClockLaw" 117 0 yX12_otherCheaper q.1 q.2 ∨ mjvU G mjM "LookAtClockLaw" 117 0 yX12_otherCheaper q.1 q.2 ∨ mjvO G mjM "LookAtClockLaw" 117 0 yX12_otherCheaper q.1 q.2 := (List.forall_mem_cons.mpr ⟨Or.inl ⟨(RX12, TX12, 41), cX12_otherCheaper, 3, (some .int), rfl, (tl47 hs), nl47, (hs _ wl194), (hs _ wl195), (hs _ wl196), (hs _ wl8)⟩, (fun _ h => nomatch h)⟩)
theorem vx9_46 {G : List Cond} (hs : ∀ w ∈ mjGXw, w ∈ G) : ∀ q ∈ ([(11, 115)] : List (Nat × Nat)), mjvV G mjM "LookAtClockLaw" 118 2 yX11_byLaw q.1 q.2 ∨ mjvU G mjM "LookAtClockLaw" 118 2 yX11_byLaw q.1 q.2 ∨ mjvO G mjM "LookAtClockLaw" 118 2 yX11_byLaw q.1 q.2 := (List.forall_mem_cons.mpr ⟨Or.inl ⟨(RX11, TX11, 10), cX11_byLaw, 4, (some .int), rfl, (tl48 hs), nl48, (hs _ wl198), (hs _ wl199), (hs _ wl200), (hs _ wl2)⟩, (fun _ h => nomatch h)⟩)
theorem vx9_47 {G : List Cond} (hs : ∀ w ∈ mjGXw, w ∈ G) : ∀ q ∈ ([(12, 173)] : List (Nat × Nat)), mjvV G mjM "LookAtClockLaw" 121 2 yX12_byLaw q.1 q.2 ∨ mjvU G mjM "LookAtClockLaw" 121 2 yX12_byLaw q.1 q.2 ∨ mjvO G mjM "LookAtClockLaw" 121 2 yX12_byLaw q.1 q.2 := (List.forall_mem_cons.mpr ⟨Or.inl ⟨(RX12, TX12, 41), cX12_byLaw, 3, (some .int), rfl, (tl49 hs), nl49, (hs _ wl202), (hs _ wl203), (hs _ wl204), (hs _ wl8)⟩, (fun _ h => nomatch h)⟩)
theorem vx9_48 {G : List Cond} (hs : ∀ w ∈ mjGXw, w ∈ G) : ∀ q ∈ ([(11, 117)] : List (Nat × Nat)), mjvV G mjM "LookAtClockLaw" 122 0 yX11_sum q.1 q.2 ∨ mjvU G mjM "LookAtClockLaw" 122 0 yX11_sum q.1 q.2 ∨ mjvO G mjM "LookAtClockLaw" 122 0 yX11_sum q.1 q.2 := (List.forall_mem_cons.mpr ⟨Or.inl ⟨(RX11, TX11, 10), cX11_sum, 3, (some .int), rfl, (tl50 hs), nl50, (hs _ wl206), (hs _ wl207), (hs _ wl208), (hs _ wl2)⟩, (fun _ h => nomatch h)⟩)
theorem vx9_49 {G : List Cond} (hs : ∀ w ∈ mjGXw, w ∈ G) : ∀ q ∈ ([(12, 174)] : List (Nat × Nat)), mjvV G mjM "LookAtClockLaw" 125 0 yX12_sum q.1 q.2 ∨ mjvU G mjM "LookAtClockLaw" 125 0 yX12_sum q.1 q.2 ∨ mjvO G mjM "LookAtClockLaw" 125 0 yX12_sum q.1 q.2 := (List.forall_mem_cons.mpr ⟨Or.inl ⟨(RX12, TX12, 41), cX12_sum, 3, (some .int), rfl, (tl51 hs), nl51, (hs _ wl210), (hs _ wl211), (hs _ wl212), (hs _ wl8)⟩, (fun _ h => nomatch h)⟩)
theorem vx9_50 {G : List Cond} (hs : ∀ w ∈ mjGXw, w ∈ G) : ∀ q ∈ ([(11, 119)] : List (Nat × Nat)), mjvV G mjM "LookAtClockLaw" 126 0 yX11_order q.1 q.2 ∨ mjvU G mjM "LookAtClockLaw" 126 0 yX11_order q.1 q.2 ∨ mjvO G mjM "LookAtClockLaw" 126 0 yX11_order q.1 q.2 := (List.forall_mem_cons.mpr ⟨Or.inl ⟨(RX11, TX11, 10), cX11_order, 3, (some .int), rfl, (tl52 hs), nl52, (hs _ wl214), (hs _ wl215), (hs _ wl216), (hs _ wl2)⟩, (fun _ h => nomatch h)⟩)
theorem vx9_51 {G : List Cond} (hs : ∀ w ∈ mjGXw, w ∈ G) : ∀ q ∈ ([(12, 175)] : List (Nat × Nat)), mjvV G mjM "LookAtClockLaw" 129 0 yX12_order q.1 q.2 ∨ mjvU G mjM "LookAtClockLaw" 129 0 yX12_order q.1 q.2 ∨ mjvO G mjM "LookAtClockLaw" 129 0 yX12_order q.1 q.2 := (List.forall_mem_cons.mpr ⟨Or.inl ⟨(RX12, TX12, 41), cX12_order, 7, (some .int), rfl, (tl53 hs), nl53, (hs _ wl218), (hs _ wl219), (hs _ wl220), (hs _ wl8)⟩, (fun _ h => nomatch h)⟩)
theorem vx9_52 {G : List Cond} (hs : ∀ w ∈ mjGXw, w ∈ G) : ∀ q ∈ ([(11, 120)] : List (Nat × Nat)), mjvV G mjM "LookAtClockLaw" 130 4 yX11_seeded q.1 q.2 ∨ mjvU G mjM "LookAtClockLaw" 130 4 yX11_seeded q.1 q.2 ∨ mjvO G mjM "LookAtClockLaw" 130 4 yX11_seeded q.1 q.2 := (List.forall_mem_cons.mpr ⟨Or.inl ⟨(RX11, TX11, 10), cX11_seeded, 13, (some .int), rfl, (tl54 hs), nl54, (hs _ wl222), (hs _ wl223), (hs _ wl224), (hs _ wl2)⟩, (fun _ h => nomatch h)⟩)
theorem vx9_53 {G : List Cond} (hs : ∀ w ∈ mjGXw, w ∈ G) : ∀ q ∈ ([(12, 176)] : List (Nat × Nat)), mjvV G mjM "LookAtClockLaw" 133 4 yX12_seeded q.1 q.2 ∨ mjvU G mjM "LookAtClockLaw" 133 4 yX12_seeded q.1 q.2 ∨ mjvO G mjM "LookAtClockLaw" 133 4 yX12_seeded q.1 q.2 := (List.forall_mem_cons.mpr ⟨Or.inl ⟨(RX12, TX12, 41), cX12_seeded, 12, (some .int), rfl, (tl55 hs), nl55, (hs _ wl226), (hs _ wl227), (hs _ wl228), (hs _ wl8)⟩, (fun _ h => nomatch h)⟩)
theorem vx9_54 {G : List Cond} (hs : ∀ w ∈ mjGXw, w ∈ G) : ∀ q ∈ ([(11, 121)] : List (Nat × Nat)), mjvV G mjM "LookAtClockLaw" 134 2 yX11_judge q.1 q.2 ∨ mjvU G mjM "LookAtClockLaw" 134 2 yX11_judge q.1 q.2 ∨ mjvO G mjM "LookAtClockLaw" 134 2 yX11_judge q.1 q.2 := (List.forall_mem_cons.mpr ⟨Or.inl ⟨(RX11, TX11, 10), cX11_judge, 9, (some .int), rfl, (tl56 hs), nl56, (hs _ wl230), (hs _ wl231), (hs _ wl232), (hs _ wl2)⟩, (fun _ h => nomatch h)⟩)
theorem vx9_55 {G : List Cond} (hs : ∀ w ∈ mjGXw, w ∈ G) : ∀ q ∈ ([(12, 177)] : List (Nat × Nat)), mjvV G mjM "LookAtClockLaw" 137 2 yX12_judge q.1 q.2 ∨ mjvU G mjM "LookAtClockLaw" 137 2 yX12_judge q.1 q.2 ∨ mjvO G mjM "LookAtClockLaw" 137 2 yX12_judge q.1 q.2 := (List.forall_mem_cons.mpr ⟨Or.inl ⟨(RX12, TX12, 41), cX12_judge, 6, (some .int), rfl, (tl57 hs), nl57, (hs _ wl234), (hs _ wl235), (hs _ wl236), (hs _ wl8)⟩, (fun _ h => nomatch h)⟩)
theorem vx9_56 {G : List Cond} (hs : ∀ w ∈ mjGXw, w ∈ G) : ∀ q ∈ ([(11, 122)] : List (Nat × Nat)), mjvV G mjM "LookAtClockLaw" 138 0 yX11_image q.1 q.2 ∨ mjvU G mjM "LookAtClockLaw" 138 0 yX11_image q.1 q.2 ∨ mjvO G mjM "LookAtClockLaw" 138 0 yX11_image q.1 q.2 := (List.forall_mem_cons.mpr ⟨Or.inl ⟨(RX11, TX11, 10), cX11_image, 1, (some .int), rfl, (tl58 hs), nl58, (hs _ wl238), (hs _ wl239), (hs _ wl240), (hs _ wl2)⟩, (fun _ h => nomatch h)⟩)
theorem vx9_57 {G : List Cond} (hs : ∀ w ∈ mjGXw, w ∈ G) : ∀ q ∈ ([(12, 135)] : List (Nat × Nat)), mjvV G mjM "LookAtClockLaw" 141 0 yX12_image q.1 q.2 ∨ mjvU G mjM "LookAtClockLaw" 141 0 yX12_image q.1 q.2 ∨ mjvO G mjM "LookAtClockLaw" 141 0 yX12_image q.1 q.2 := (List.forall_mem_cons.mpr ⟨Or.inl ⟨(RX12, TX12, 41), cX12_image, 1, (some .int), rfl, (tl59 hs), nl59, (hs _ wl242), (hs _ wl243), (hs _ wl244), (hs _ wl8)⟩, (fun _ h => nomatch h)⟩)
theorem vx9_58 {G : List Cond} (hs : ∀ w ∈ mjGXw, w ∈ G) : ∀ q ∈ ([(11, 123)] : List (Nat × Nat)), mjvV G mjM "LookAtClockLaw" 142 0 yX11_restore q.1 q.2 ∨ mjvU G mjM "LookAtClockLaw" 142 0 yX11_restore q.1 q.2 ∨ mjvO G mjM "LookAtClockLaw" 142 0 yX11_restore q.1 q.2 := (List.forall_mem_cons.mpr ⟨Or.inl ⟨(RX11, TX11, 10), cX11_restore, 1, (some .int), rfl, (tl60 hs), nl60, (hs _ wl246), (hs _ wl247), (hs _ wl248), (hs _ wl2)⟩, (fun _ h => nomatch h)⟩)
theorem vx9_59 {G : List Cond} (hs : ∀ w ∈ mjGXw, w ∈ G) : ∀ q ∈ ([(12, 136)] : List (Nat × Nat)), mjvV G mjM "LookAtClockLaw" 145 0 yX12_restore q.1 q.2 ∨ mjvU G mjM "LookAtClockLaw" 145 0 yX12_restore q.1 q.2 ∨ mjvO G mjM "LookAtClockLaw" 145 0 yX12_restore q.1 q.2 := (List.forall_mem_cons.mpr ⟨Or.inl ⟨(RX12, TX12, 41), cX12_restore, 1, (some .int), rfl, (tl61 hs), nl61, (hs _ wl250), (hs _ wl251), (hs _ wl252), (hs _ wl8)⟩, (fun _ h => nomatch h)⟩)
theorem vx9_60 {G : List Cond} (hs : ∀ w ∈ mjGXw, w ∈ G) : ∀ q ∈ ([(11, 124)] : List (Nat × Nat)), mjvV G mjM "LookAtClockLaw" 146 1 yX11_count q.1 q.2 ∨ mjvU G mjM "LookAtClockLaw" 146 1 yX11_count q.1 q.2 ∨ mjvO G mjM "LookAtClockLaw" 146 1 yX11_count q.1 q.2 := (List.forall_mem_cons.mpr ⟨Or.inl ⟨(RX11, TX11, 10), cX11_count, 2, (some .int), rfl, (tl62 hs), nl62, (hs _ wl254), (hs _ wl255), (hs _ wl256), (hs _ wl2)⟩, (fun _ h => nomatch h)⟩)
theorem vx9_61 {G : List Cond} (hs : ∀ w ∈ mjGXw, w ∈ G) : ∀ q ∈ ([(12, 178)] : List (Nat × Nat)), mjvV G mjM "LookAtClockLaw" 149 1 yX12_count q.1 q.2 ∨ mjvU G mjM "LookAtClockLaw" 149 1 yX12_count q.1 q.2 ∨ mjvO G mjM "LookAtClockLaw" 149 1 yX12_count q.1 q.2 := (List.forall_mem_cons.mpr ⟨Or.inl ⟨(RX12, TX12, 41), cX12_count, 4, (some .int), rfl, (tl63 hs), nl63, (hs _ wl258), (hs _ wl259), (hs _ wl260), (hs _ wl8)⟩, (fun _ h => nomatch h)⟩)
theorem vx9_62 {G : List Cond} (hs : ∀ w ∈ mjGXw, w ∈ G) : ∀ q ∈ ([(11, 125)] : List (Nat × Nat)), mjvV G mjM "LookAtClockLaw" 150 3 yX11_keep q.1 q.2 ∨ mjvU G mjM "LookAtClockLaw" 150 3 yX11_keep q.1 q.2 ∨ mjvO G mjM "LookAtClockLaw" 150 3 yX11_keep q.1 q.2 := (List.forall_mem_cons.mpr ⟨Or.inl ⟨(RX11, TX11, 10), cX11_keep, 5, (some .int), rfl, (tl64 hs), nl64, (hs _ wl262), (hs _ wl263), (hs _ wl264), (hs _ wl2)⟩, (fun _ h => nomatch h)⟩)
theorem vx9_63 {G : List Cond} (hs : ∀ w ∈ mjGXw, w ∈ G) : ∀ q ∈ ([(12, 188)] : List (Nat × Nat)), mjvV G mjM "LookAtClockLaw" 153 3 yX12_keep q.1 q.2 ∨ mjvU G mjM "LookAtClockLaw" 153 3 yX12_keep q.1 q.2 ∨ mjvO G mjM "LookAtClockLaw" 153 3 yX12_keep q.1 q.2 := (List.forall_mem_cons.mpr ⟨Or.inl ⟨(RX12, TX12, 41), cX12_keep, 4, (some .int), rfl, (tl65 hs), nl65, (hs _ wl266), (hs _ wl267), (hs _ wl268), (hs _ wl8)⟩, (fun _ h => nomatch h)⟩)
theorem vx9_64 {G : List Cond} (hs : ∀ w ∈ mjGXw, w ∈ G) : ∀ q ∈ ([(11, 126)] : List (Nat × Nat)), mjvV G mjM "LookAtClockLaw" 154 3 yX11_row q.1 q.2 ∨ mjvU G mjM "LookAtClockLaw" 154 3 yX11_row q.1 q.2 ∨ mjvO G mjM "LookAtClockLaw" 154 3 yX11_row q.1 q.2 := (List.forall_mem_cons.mpr ⟨Or.inl ⟨(RX11, TX11, 10), cX11_row, 4, (some .int), rfl, (tl66 hs), nl66, (hs _ wl270), (hs _ wl271), (hs _ wl272), (hs _ wl2)⟩, (fun _ h => nomatch h)⟩)
theorem vx9_65 {G : List Cond} (hs : ∀ w ∈ mjGXw, w ∈ G) : ∀ q ∈ ([(12, 189)] : List (Nat × Nat)), mjvV G mjM "LookAtClockLaw" 157 3 yX12_row q.1 q.2 ∨ mjvU G mjM "LookAtClockLaw" 157 3 yX12_row q.1 q.2 ∨ mjvO G mjM "LookAtClockLaw" 157 3 yX12_row q.1 q.2 := (List.forall_mem_cons.mpr ⟨Or.inl ⟨(RX12, TX12, 41), cX12_row, 5, (some .int), rfl, (tl67 hs), nl67, (hs _ wl274), (hs _ wl275), (hs _ wl276), (hs _ wl8)⟩, (fun _ h => nomatch h)⟩)
theorem vx9_66 {G : List Cond} (hs : ∀ w ∈ mjGXw, w ∈ G) : ∀ q ∈ ([(11, 127)] : List (Nat × Nat)), mjvV G mjM "LookAtClockLaw" 158 3 yX11_put q.1 q.2 ∨ mjvU G mjM "LookAtClockLaw" 158 3 yX11_put q.1 q.2 ∨ mjvO G mjM "LookAtClockLaw" 158 3 yX11_put q.1 q.2 := (List.forall_mem_cons.mpr ⟨Or.inl ⟨(RX11, TX11, 10), cX11_put, 6, (some .int), rfl, (tl68 hs), nl68, (hs _ wl278), (hs _ wl279), (hs _ wl280), (hs _ wl2)⟩, (fun _ h => nomatch h)⟩)
theorem vx9_67 {G : List Cond} (hs : ∀ w ∈ mjGXw, w ∈ G) : ∀ q ∈ ([(12, 190)] : List (Nat × Nat)), mjvV G mjM "LookAtClockLaw" 161 3 yX12_put q.1 q.2 ∨ mjvU G mjM "LookAtClockLaw" 161 3 yX12_put q.1 q.2 ∨ mjvO G mjM "LookAtClockLaw" 161 3 yX12_put q.1 q.2 := (List.forall_mem_cons.mpr ⟨Or.inl ⟨(RX12, TX12, 41), cX12_put, 4, (some .int), rfl, (tl69 hs), nl69, (hs _ wl282), (hs _ wl283), (hs _ wl284), (hs _ wl8)⟩, (fun _ h => nomatch h)⟩)
theorem vx9_68 {G : List Cond} (hs : ∀ w ∈ mjGXw, w ∈ G) : ∀ q ∈ ([(12, 192)] : List (Nat × Nat)), mjvV G mjM "LookAtClockLaw" 167 2 yX12_element q.1 q.2 ∨ mjvU G mjM "LookAtClockLaw" 167 2 yX12_element q.1 q.2 ∨ mjvO G mjM "LookAtClockLaw" 167 2 yX12_element q.1 q.2 := (List.forall_mem_cons.mpr ⟨Or.inl ⟨(RX12, TX12, 41), cX12_element, 3, (some .long), rfl, (tl70 hs), nl70, (hs _ wl286), (hs _ wl287), (hs _ wl288), (hs _ wl8)⟩, (fun _ h => nomatch h)⟩)
theorem vx9_69 {G : List Cond} (hs : ∀ w ∈ mjGXw, w ∈ G) : ∀ q ∈ ([(12, 191)] : List (Nat × Nat)), mjvV G mjM "LookAtClockLaw" 168 0 yX12_thrown q.1 q.2 ∨ mjvU G mjM "LookAtClockLaw" 168 0 yX12_thrown q.1 q.2 ∨ mjvO G mjM "LookAtClockLaw" 168 0 yX12_thrown q.1 q.2 := (List.forall_mem_cons.mpr ⟨Or.inl ⟨(RX12, TX12, 41), cX12_thrown, 1, (some .int), rfl, (tl71 hs), nl71, (hs _ wl290), (hs _ wl291), (hs _ wl292), (hs _ wl8)⟩, (fun _ h => nomatch h)⟩)
theorem vx9_70 {G : List Cond} (hs : ∀ w ∈ mjGXw, w ∈ G) : ∀ q ∈ ([(11, 128)] : List (Nat × Nat)), mjvV G mjM "LookAtClockLaw" 171 5 yX11_copy q.1 q.2 ∨ mjvU G mjM "LookAtClockLaw" 171 5 yX11_copy q.1 q.2 ∨ mjvO G mjM "LookAtClockLaw" 171 5 yX11_copy q.1 q.2 := (List.forall_mem_cons.mpr ⟨Or.inl ⟨(RX11, TX11, 10), cX11_copy, 8, (some .int), rfl, (tl72 hs), nl72, (hs _ wl294), (hs _ wl295), (hs _ wl296), (hs _ wl2)⟩, (fun _ h => nomatch h)⟩)
theorem vx9_71 {G : List Cond} (hs : ∀ w ∈ mjGXw, w ∈ G) : ∀ q ∈ ([(12, 193)] : List (Nat × Nat)), mjvV G mjM "LookAtClockLaw" 175 5 yX12_copy q.1 q.2 ∨ mjvU G mjM "LookAtClockLaw" 175 5 yX12_copy q.1 q.2 ∨ mjvO G mjM "LookAtClockLaw" 175 5 yX12_copy q.1 q.2 := (List.forall_mem_cons.mpr ⟨Or.inl ⟨(RX12, TX12, 41), cX12_copy, 7, (some .int), rfl, (tl73 hs), nl73, (hs _ wl298), (hs _ wl299), (hs _ wl300), (hs _ wl8)⟩, (fun _ h => nomatch h)⟩)
theorem vx9_72 {G : List Cond} (hs : ∀ w ∈ mjGXw, w ∈ G) : ∀ q ∈ ([(11, 130)] : List (Nat × Nat)), mjvV G mjM "LookAtClockLaw" 176 1 yX11_skill q.1 q.2 ∨ mjvU G mjM "LookAtClockLaw" 176 1 yX11_skill q.1 q.2 ∨ mjvO G mjM "LookAtClockLaw" 176 1 yX11_skill q.1 q.2 := (List.forall_mem_cons.mpr ⟨Or.inl ⟨(RX11, TX11, 10), cX11_skill, 3, (some .int), rfl, (tl74 hs), nl74, (hs _ wl302), (hs _ wl303), (hs _ wl304), (hs _ wl2)⟩, (fun _ h => nomatch h)⟩)
theorem vx9_73 {G : List Cond} (hs : ∀ w ∈ mjGXw, w ∈ G) : ∀ q ∈ ([(12, 195)] : List (Nat × Nat)), mjvV G mjM "LookAtClockLaw" 179 1 yX12_skill q.1 q.2 ∨ mjvU G mjM "LookAtClockLaw" 179 1 yX12_skill q.1 q.2 ∨ mjvO G mjM "LookAtClockLaw" 179 1 yX12_skill q.1 q.2 := (List.forall_mem_cons.mpr ⟨Or.inl ⟨(RX12, TX12, 41), cX12_skill, 2, (some .int), rfl, (tl75 hs), nl75, (hs _ wl306), (hs _ wl307), (hs _ wl308), (hs _ wl8)⟩, (fun _ h => nomatch h)⟩)
theorem vx9_74 {G : List Cond} (hs : ∀ w ∈ mjGXw, w ∈ G) : ∀ q ∈ ([(12, 196)] : List (Nat × Nat)), mjvV G mjM "LookAtClockLaw" 183 1 yX12_toss q.1 q.2 ∨ mjvU G mjM "LookAtClockLaw" 183 1 yX12_toss q.1 q.2 ∨ mjvO G mjM "LookAtClockLaw" 183 1 yX12_toss q.1 q.2 := (List.forall_mem_cons.mpr ⟨Or.inl ⟨(RX12, TX12, 41), cX12_toss, 2, (some .int), rfl, (tl76 hs), nl76, (hs _ wl310), (hs _ wl311), (hs _ wl312), (hs _ wl8)⟩, (fun _ h => nomatch h)⟩)
