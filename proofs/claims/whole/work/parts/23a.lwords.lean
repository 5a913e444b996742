/-! the words that the law needs -/
def mjGL0 : List Cond := [Cond.classLink "LookAtClockLaw" 8 "LookAtClock",
  Cond.instantiable "LookAtClock" 10,
  Cond.initialized "LookAtClock",
  Cond.methodLink "LookAtClockLaw" 17 yX11_init,
  Cond.code yX11_init cX11_init 2 none,
  Cond.instanceMethod yX11_init,
  Cond.classLink "LookAtClockLaw" 18 "LookAtClockModel",
  Cond.instantiable "LookAtClockModel" 41,
  Cond.initialized "LookAtClockModel",
  Cond.methodLink "LookAtClockLaw" 20 yX12_init,
  Cond.code yX12_init cX12_init 1 none,
  Cond.instanceMethod yX12_init,
  Cond.arrayClass .long,
  Cond.code yX11_town cX11_town 8 (some .int),
  Cond.methodLink "LookAtClockLaw" 21 yX11_town,
  Cond.instanceMethod yX11_town,
  Cond.selects "LookAtClock" yX11_town yX11_town,
  Cond.code yX12_town cX12_town 2 (some .int),
  Cond.methodLink "LookAtClockLaw" 25 yX12_town,
  Cond.instanceMethod yX12_town,
  Cond.selects "LookAtClockModel" yX12_town yX12_town,
  Cond.code yX11_price cX11_price 2 (some .int),
  Cond.methodLink "LookAtClockLaw" 26 yX11_price,
  Cond.instanceMethod yX11_price,
  Cond.selects "LookAtClock" yX11_price yX11_price,
  Cond.code yX12_price cX12_price 2 (some .int),
  Cond.methodLink "LookAtClockLaw" 29 yX12_price,
  Cond.instanceMethod yX12_price,
  Cond.selects "LookAtClockModel" yX12_price yX12_price,
  Cond.code yX11_law cX11_law 3 (some .int),
  Cond.methodLink "LookAtClockLaw" 30 yX11_law,
  Cond.instanceMethod yX11_law,
  Cond.selects "LookAtClock" yX11_law yX11_law,
  Cond.code yX12_law cX12_law 3 (some .int),
  Cond.methodLink "LookAtClockLaw" 33 yX12_law,
  Cond.instanceMethod yX12_law,
  Cond.selects "LookAtClockModel" yX12_law yX12_law,
  Cond.code yX11_work cX11_work 3 (some .int),
  Cond.methodLink "LookAtClockLaw" 34 yX11_work,
  Cond.instanceMethod yX11_work]
def mjGL1 : List Cond := [Cond.selects "LookAtClock" yX11_work yX11_work,
  Cond.code yX12_work cX12_work 3 (some .int),
  Cond.methodLink "LookAtClockLaw" 38 yX12_work,
  Cond.instanceMethod yX12_work,
  Cond.selects "LookAtClockModel" yX12_work yX12_work,
  Cond.code yX11_looker cX11_looker 4 (some .int),
  Cond.methodLink "LookAtClockLaw" 39 yX11_looker,
  Cond.instanceMethod yX11_looker,
  Cond.selects "LookAtClock" yX11_looker yX11_looker,
  Cond.code yX12_looker cX12_looker 3 (some .int),
  Cond.methodLink "LookAtClockLaw" 42 yX12_looker,
  Cond.instanceMethod yX12_looker,
  Cond.selects "LookAtClockModel" yX12_looker yX12_looker,
  Cond.code yX11_drift cX11_drift 3 (some .int),
  Cond.methodLink "LookAtClockLaw" 43 yX11_drift,
  Cond.instanceMethod yX11_drift,
  Cond.selects "LookAtClock" yX11_drift yX11_drift,
  Cond.code yX12_drift cX12_drift 2 (some .int),
  Cond.methodLink "LookAtClockLaw" 46 yX12_drift,
  Cond.instanceMethod yX12_drift,
  Cond.selects "LookAtClockModel" yX12_drift yX12_drift,
  Cond.code yX11_thinks cX11_thinks 5 (some .int),
  Cond.methodLink "LookAtClockLaw" 47 yX11_thinks,
  Cond.instanceMethod yX11_thinks,
  Cond.selects "LookAtClock" yX11_thinks yX11_thinks,
  Cond.code yX12_thinks cX12_thinks 4 (some .int),
  Cond.methodLink "LookAtClockLaw" 51 yX12_thinks,
  Cond.instanceMethod yX12_thinks,
  Cond.selects "LookAtClockModel" yX12_thinks yX12_thinks,
  Cond.code yX11_day cX11_day 4 (some .int),
  Cond.methodLink "LookAtClockLaw" 52 yX11_day,
  Cond.instanceMethod yX11_day,
  Cond.selects "LookAtClock" yX11_day yX11_day,
  Cond.code yX12_day cX12_day 4 (some .int),
  Cond.methodLink "LookAtClockLaw" 55 yX12_day,
  Cond.instanceMethod yX12_day,
  Cond.selects "LookAtClockModel" yX12_day yX12_day,
  Cond.code yX11_look cX11_look 4 (some .int),
  Cond.methodLink "LookAtClockLaw" 56 yX11_look,
  Cond.instanceMethod yX11_look]
def mjGL2 : List Cond := [Cond.selects "LookAtClock" yX11_look yX11_look,
  Cond.code yX12_look cX12_look 3 (some .int),
  Cond.methodLink "LookAtClockLaw" 59 yX12_look,
  Cond.instanceMethod yX12_look,
  Cond.selects "LookAtClockModel" yX12_look yX12_look,
  Cond.code yX11_comes cX11_comes 4 (some .int),
  Cond.methodLink "LookAtClockLaw" 60 yX11_comes,
  Cond.instanceMethod yX11_comes,
  Cond.selects "LookAtClock" yX11_comes yX11_comes,
  Cond.code yX12_comes cX12_comes 3 (some .int),
  Cond.methodLink "LookAtClockLaw" 63 yX12_comes,
  Cond.instanceMethod yX12_comes,
  Cond.selects "LookAtClockModel" yX12_comes yX12_comes,
  Cond.code yX11_bestFigure cX11_bestFigure 3 (some .int),
  Cond.methodLink "LookAtClockLaw" 64 yX11_bestFigure,
  Cond.instanceMethod yX11_bestFigure,
  Cond.selects "LookAtClock" yX11_bestFigure yX11_bestFigure,
  Cond.code yX12_bestFigure cX12_bestFigure 2 (some .int),
  Cond.methodLink "LookAtClockLaw" 67 yX12_bestFigure,
  Cond.instanceMethod yX12_bestFigure,
  Cond.selects "LookAtClockModel" yX12_bestFigure yX12_bestFigure,
  Cond.code yX11_always cX11_always 5 (some .int),
  Cond.methodLink "LookAtClockLaw" 68 yX11_always,
  Cond.instanceMethod yX11_always,
  Cond.selects "LookAtClock" yX11_always yX11_always,
  Cond.code yX12_always cX12_always 3 (some .int),
  Cond.methodLink "LookAtClockLaw" 71 yX12_always,
  Cond.instanceMethod yX12_always,
  Cond.selects "LookAtClockModel" yX12_always yX12_always,
  Cond.code yX11_pays cX11_pays 4 (some .int),
  Cond.methodLink "LookAtClockLaw" 72 yX11_pays,
  Cond.instanceMethod yX11_pays,
  Cond.selects "LookAtClock" yX11_pays yX11_pays,
  Cond.code yX12_pays_ cX12_pays_ 2 (some .int),
  Cond.methodLink "LookAtClockLaw" 75 yX12_pays_,
  Cond.instanceMethod yX12_pays_,
  Cond.selects "LookAtClockModel" yX12_pays_ yX12_pays_,
  Cond.code yX11_bestKind cX11_bestKind 6 (some .int),
  Cond.methodLink "LookAtClockLaw" 76 yX11_bestKind,
  Cond.instanceMethod yX11_bestKind]
def mjGL3 : List Cond := [Cond.selects "LookAtClock" yX11_bestKind yX11_bestKind,
  Cond.code yX12_bestKind cX12_bestKind 6 (some .int),
  Cond.methodLink "LookAtClockLaw" 79 yX12_bestKind,
  Cond.instanceMethod yX12_bestKind,
  Cond.selects "LookAtClockModel" yX12_bestKind yX12_bestKind,
  Cond.code yX11_edge cX11_edge 6 (some .int),
  Cond.methodLink "LookAtClockLaw" 80 yX11_edge,
  Cond.instanceMethod yX11_edge,
  Cond.selects "LookAtClock" yX11_edge yX11_edge,
  Cond.code yX12_edge cX12_edge 4 (some .int),
  Cond.methodLink "LookAtClockLaw" 83 yX12_edge,
  Cond.instanceMethod yX12_edge,
  Cond.selects "LookAtClockModel" yX12_edge yX12_edge,
  Cond.code yX11_waits cX11_waits 4 (some .int),
  Cond.methodLink "LookAtClockLaw" 84 yX11_waits,
  Cond.instanceMethod yX11_waits,
  Cond.selects "LookAtClock" yX11_waits yX11_waits,
  Cond.code yX12_waits cX12_waits 4 (some .int),
  Cond.methodLink "LookAtClockLaw" 87 yX12_waits,
  Cond.instanceMethod yX12_waits,
  Cond.selects "LookAtClockModel" yX12_waits yX12_waits,
  Cond.code yX11_learn cX11_learn 9 (some .int),
  Cond.methodLink "LookAtClockLaw" 88 yX11_learn,
  Cond.instanceMethod yX11_learn,
  Cond.selects "LookAtClock" yX11_learn yX11_learn,
  Cond.code yX12_learn cX12_learn 11 (some .int),
  Cond.methodLink "LookAtClockLaw" 91 yX12_learn,
  Cond.instanceMethod yX12_learn,
  Cond.selects "LookAtClockModel" yX12_learn yX12_learn,
  Cond.code yX11_shared cX11_shared 3 (some .int),
  Cond.methodLink "LookAtClockLaw" 92 yX11_shared,
  Cond.instanceMethod yX11_shared,
  Cond.selects "LookAtClock" yX11_shared yX11_shared,
  Cond.code yX12_shared cX12_shared 3 (some .int),
  Cond.methodLink "LookAtClockLaw" 95 yX12_shared,
  Cond.instanceMethod yX12_shared,
  Cond.selects "LookAtClockModel" yX12_shared yX12_shared,
  Cond.code yX11_nine cX11_nine 5 (some .int),
  Cond.methodLink "LookAtClockLaw" 96 yX11_nine,
  Cond.instanceMethod yX11_nine]
def mjGL4 : List Cond := [Cond.selects "LookAtClock" yX11_nine yX11_nine,
  Cond.code yX12_nine cX12_nine 4 (some .int),
  Cond.methodLink "LookAtClockLaw" 99 yX12_nine,
  Cond.instanceMethod yX12_nine,
  Cond.selects "LookAtClockModel" yX12_nine yX12_nine,
  Cond.code yX11_buys cX11_buys 5 (some .int),
  Cond.methodLink "LookAtClockLaw" 100 yX11_buys,
  Cond.instanceMethod yX11_buys,
  Cond.selects "LookAtClock" yX11_buys yX11_buys,
  Cond.code yX12_buys cX12_buys 5 (some .int),
  Cond.methodLink "LookAtClockLaw" 104 yX12_buys,
  Cond.instanceMethod yX12_buys,
  Cond.selects "LookAtClockModel" yX12_buys yX12_buys,
  Cond.code yX11_rest cX11_rest 5 (some .int),
  Cond.methodLink "LookAtClockLaw" 105 yX11_rest,
  Cond.instanceMethod yX11_rest,
  Cond.selects "LookAtClock" yX11_rest yX11_rest,
  Cond.code yX12_rest cX12_rest 6 (some .int),
  Cond.methodLink "LookAtClockLaw" 108 yX12_rest,
  Cond.instanceMethod yX12_rest,
  Cond.selects "LookAtClockModel" yX12_rest yX12_rest,
  Cond.code yX11_cheaper cX11_cheaper 2 (some .int),
  Cond.methodLink "LookAtClockLaw" 109 yX11_cheaper,
  Cond.instanceMethod yX11_cheaper,
  Cond.selects "LookAtClock" yX11_cheaper yX11_cheaper,
  Cond.code yX12_cheaper cX12_cheaper 2 (some .int),
  Cond.methodLink "LookAtClockLaw" 112 yX12_cheaper,
  Cond.instanceMethod yX12_cheaper,
  Cond.selects "LookAtClockModel" yX12_cheaper yX12_cheaper,
  Cond.code yX11_otherCheaper cX11_otherCheaper 3 (some .int),
  Cond.methodLink "LookAtClockLaw" 113 yX11_otherCheaper,
  Cond.instanceMethod yX11_otherCheaper,
  Cond.selects "LookAtClock" yX11_otherCheaper yX11_otherCheaper,
  Cond.code yX12_otherCheaper cX12_otherCheaper 3 (some .int),
  Cond.methodLink "LookAtClockLaw" 117 yX12_otherCheaper,
  Cond.instanceMethod yX12_otherCheaper,
  Cond.selects "LookAtClockModel" yX12_otherCheaper yX12_otherCheaper,
  Cond.code yX11_byLaw cX11_byLaw 4 (some .int),
  Cond.methodLink "LookAtClockLaw" 118 yX11_byLaw,
  Cond.instanceMethod yX11_byLaw]
def mjGL5 : List Cond := [Cond.selects "LookAtClock" yX11_byLaw yX11_byLaw,
  Cond.code yX12_byLaw cX12_byLaw 3 (some .int),
  Cond.methodLink "LookAtClockLaw" 121 yX12_byLaw,
  Cond.instanceMethod yX12_byLaw,
  Cond.selects "LookAtClockModel" yX12_byLaw yX12_byLaw,
  Cond.code yX11_sum cX11_sum 3 (some .int),
  Cond.methodLink "LookAtClockLaw" 122 yX11_sum,
  Cond.instanceMethod yX11_sum,
  Cond.selects "LookAtClock" yX11_sum yX11_sum,
  Cond.code yX12_sum cX12_sum 3 (some .int),
  Cond.methodLink "LookAtClockLaw" 125 yX12_sum,
  Cond.instanceMethod yX12_sum,
  Cond.selects "LookAtClockModel" yX12_sum yX12_sum,
  Cond.code yX11_order cX11_order 3 (some .int),
  Cond.methodLink "LookAtClockLaw" 126 yX11_order,
  Cond.instanceMethod yX11_order,
  Cond.selects "LookAtClock" yX11_order yX11_order,
  Cond.code yX12_order cX12_order 7 (some .int),
  Cond.methodLink "LookAtClockLaw" 129 yX12_order,
  Cond.instanceMethod yX12_order,
  Cond.selects "LookAtClockModel" yX12_order yX12_order,
  Cond.code yX11_seeded cX11_seeded 13 (some .int),
  Cond.methodLink "LookAtClockLaw" 130 yX11_seeded,
  Cond.instanceMethod yX11_seeded,
  Cond.selects "LookAtClock" yX11_seeded yX11_seeded,
  Cond.code yX12_seeded cX12_seeded 12 (some .int),
  Cond.methodLink "LookAtClockLaw" 133 yX12_seeded,
  Cond.instanceMethod yX12_seeded,
  Cond.selects "LookAtClockModel" yX12_seeded yX12_seeded,
  Cond.code yX11_judge cX11_judge 9 (some .int),
  Cond.methodLink "LookAtClockLaw" 134 yX11_judge,
  Cond.instanceMethod yX11_judge,
  Cond.selects "LookAtClock" yX11_judge yX11_judge,
  Cond.code yX12_judge cX12_judge 6 (some .int),
  Cond.methodLink "LookAtClockLaw" 137 yX12_judge,
  Cond.instanceMethod yX12_judge,
  Cond.selects "LookAtClockModel" yX12_judge yX12_judge,
  Cond.code yX11_image cX11_image 1 (some .int),
  Cond.methodLink "LookAtClockLaw" 138 yX11_image,
  Cond.instanceMethod yX11_image]
def mjGL6 : List Cond := [Cond.selects "LookAtClock" yX11_image yX11_image,
  Cond.code yX12_image cX12_image 1 (some .int),
  Cond.methodLink "LookAtClockLaw" 141 yX12_image,
  Cond.instanceMethod yX12_image,
  Cond.selects "LookAtClockModel" yX12_image yX12_image,
  Cond.code yX11_restore cX11_restore 1 (some .int),
  Cond.methodLink "LookAtClockLaw" 142 yX11_restore,
  Cond.instanceMethod yX11_restore,
  Cond.selects "LookAtClock" yX11_restore yX11_restore,
  Cond.code yX12_restore cX12_restore 1 (some .int),
  Cond.methodLink "LookAtClockLaw" 145 yX12_restore,
  Cond.instanceMethod yX12_restore,
  Cond.selects "LookAtClockModel" yX12_restore yX12_restore,
  Cond.code yX11_count cX11_count 2 (some .int),
  Cond.methodLink "LookAtClockLaw" 146 yX11_count,
  Cond.instanceMethod yX11_count,
  Cond.selects "LookAtClock" yX11_count yX11_count,
  Cond.code yX12_count cX12_count 4 (some .int),
  Cond.methodLink "LookAtClockLaw" 149 yX12_count,
  Cond.instanceMethod yX12_count,
  Cond.selects "LookAtClockModel" yX12_count yX12_count,
  Cond.code yX11_keep cX11_keep 5 (some .int),
  Cond.methodLink "LookAtClockLaw" 150 yX11_keep,
  Cond.instanceMethod yX11_keep,
  Cond.selects "LookAtClock" yX11_keep yX11_keep,
  Cond.code yX12_keep cX12_keep 4 (some .int),
  Cond.methodLink "LookAtClockLaw" 153 yX12_keep,
  Cond.instanceMethod yX12_keep,
  Cond.selects "LookAtClockModel" yX12_keep yX12_keep,
  Cond.code yX11_row cX11_row 5 (some .int),
  Cond.methodLink "LookAtClockLaw" 154 yX11_row,
  Cond.instanceMethod yX11_row,
  Cond.selects "LookAtClock" yX11_row yX11_row,
  Cond.code yX12_row cX12_row 5 (some .int),
  Cond.methodLink "LookAtClockLaw" 157 yX12_row,
  Cond.instanceMethod yX12_row,
  Cond.selects "LookAtClockModel" yX12_row yX12_row,
  Cond.code yX11_put cX11_put 6 (some .int),
  Cond.methodLink "LookAtClockLaw" 158 yX11_put,
  Cond.instanceMethod yX11_put]
def mjGL7 : List Cond := [Cond.selects "LookAtClock" yX11_put yX11_put,
  Cond.code yX12_put cX12_put 4 (some .int),
  Cond.methodLink "LookAtClockLaw" 161 yX12_put,
  Cond.instanceMethod yX12_put,
  Cond.selects "LookAtClockModel" yX12_put yX12_put,
  Cond.code yX12_element cX12_element 3 (some .long),
  Cond.methodLink "LookAtClockLaw" 167 yX12_element,
  Cond.instanceMethod yX12_element,
  Cond.selects "LookAtClockModel" yX12_element yX12_element,
  Cond.code yX12_thrown cX12_thrown 1 (some .int),
  Cond.methodLink "LookAtClockLaw" 168 yX12_thrown,
  Cond.instanceMethod yX12_thrown,
  Cond.selects "LookAtClockModel" yX12_thrown yX12_thrown,
  Cond.code yX11_copy cX11_copy 8 (some .int),
  Cond.methodLink "LookAtClockLaw" 171 yX11_copy,
  Cond.instanceMethod yX11_copy,
  Cond.selects "LookAtClock" yX11_copy yX11_copy,
  Cond.code yX12_copy cX12_copy 7 (some .int),
  Cond.methodLink "LookAtClockLaw" 175 yX12_copy,
  Cond.instanceMethod yX12_copy,
  Cond.selects "LookAtClockModel" yX12_copy yX12_copy,
  Cond.code yX11_skill cX11_skill 3 (some .int),
  Cond.methodLink "LookAtClockLaw" 176 yX11_skill,
  Cond.instanceMethod yX11_skill,
  Cond.selects "LookAtClock" yX11_skill yX11_skill,
  Cond.code yX12_skill cX12_skill 2 (some .int),
  Cond.methodLink "LookAtClockLaw" 179 yX12_skill,
  Cond.instanceMethod yX12_skill,
  Cond.selects "LookAtClockModel" yX12_skill yX12_skill,
  Cond.code yX12_toss cX12_toss 2 (some .int),
  Cond.methodLink "LookAtClockLaw" 183 yX12_toss,
  Cond.instanceMethod yX12_toss,
  Cond.selects "LookAtClockModel" yX12_toss yX12_toss]
def mjGLw : List Cond := mjGL0 ++ (mjGL1 ++ (mjGL2 ++ (mjGL3 ++ (mjGL4 ++ (mjGL5 ++ (mjGL6 ++ (mjGL7)))))))
theorem wl0 : Cond.classLink "LookAtClockLaw" 8 "LookAtClock" ∈ mjGLw := List.mem_append_left _ (List.mem_of_getElem? (i := 0) rfl)
theorem wl1 : Cond.instantiable "LookAtClock" 10 ∈ mjGLw := List.mem_append_left _ (List.mem_of_getElem? (i := 1) rfl)
theorem wl2 : Cond.initialized "LookAtClock" ∈ mjGLw := List.mem_append_left _ (List.mem_of_getElem? (i := 2) rfl)
theorem wl3 : Cond.methodLink "LookAtClockLaw" 17 yX11_init ∈ mjGLw := List.mem_append_left _ (List.mem_of_getElem? (i := 3) rfl)
theorem wl4 : Cond.code yX11_init cX11_init 2 none ∈ mjGLw := List.mem_append_left _ (List.mem_of_getElem? (i := 4) rfl)
theorem wl5 : Cond.instanceMethod yX11_init ∈ mjGLw := List.mem_append_left _ (List.mem_of_getElem? (i := 5) rfl)
theorem wl6 : Cond.classLink "LookAtClockLaw" 18 "LookAtClockModel" ∈ mjGLw := List.mem_append_left _ (List.mem_of_getElem? (i := 6) rfl)
theorem wl7 : Cond.instantiable "LookAtClockModel" 41 ∈ mjGLw := List.mem_append_left _ (List.mem_of_getElem? (i := 7) rfl)
theorem wl8 : Cond.initialized "LookAtClockModel" ∈ mjGLw := List.mem_append_left _ (List.mem_of_getElem? (i := 8) rfl)
theorem wl9 : Cond.methodLink "LookAtClockLaw" 20 yX12_init ∈ mjGLw := List.mem_append_left _ (List.mem_of_getElem? (i := 9) rfl)
theorem wl10 : Cond.code yX12_init cX12_init 1 none ∈ mjGLw := List.mem_append_left _ (List.mem_of_getElem? (i := 10) rfl)
theorem wl11 : Cond.instanceMethod yX12_init ∈ mjGLw := List.mem_append_left _ (List.mem_of_getElem? (i := 11) rfl)
theorem wl12 : Cond.arrayClass .long ∈ mjGLw := List.mem_append_left _ (List.mem_of_getElem? (i := 12) rfl)
theorem wl13 : Cond.code yX11_town cX11_town 8 (some .int) ∈ mjGLw := List.mem_append_left _ (List.mem_of_getElem? (i := 13) rfl)
theorem wl14 : Cond.methodLink "LookAtClockLaw" 21 yX11_town ∈ mjGLw := List.mem_append_left _ (List.mem_of_getElem? (i := 14) rfl)
theorem wl15 : Cond.instanceMethod yX11_town ∈ mjGLw := List.mem_append_left _ (List.mem_of_getElem? (i := 15) rfl)
theorem wl16 : Cond.selects "LookAtClock" yX11_town yX11_town ∈ mjGLw := List.mem_append_left _ (List.mem_of_getElem? (i := 16) rfl)
theorem wl17 : Cond.code yX12_town cX12_town 2 (some .int) ∈ mjGLw := List.mem_append_left _ (List.mem_of_getElem? (i := 17) rfl)
theorem wl18 : Cond.methodLink "LookAtClockLaw" 25 yX12_town ∈ mjGLw := List.mem_append_left _ (List.mem_of_getElem? (i := 18) rfl)
theorem wl19 : Cond.instanceMethod yX12_town ∈ mjGLw := List.mem_append_left _ (List.mem_of_getElem? (i := 19) rfl)
theorem wl20 : Cond.selects "LookAtClockModel" yX12_town yX12_town ∈ mjGLw := List.mem_append_left _ (List.mem_of_getElem? (i := 20) rfl)
theorem wl21 : Cond.code yX11_price cX11_price 2 (some .int) ∈ mjGLw := List.mem_append_left _ (List.mem_of_getElem? (i := 21) rfl)
theorem wl22 : Cond.methodLink "LookAtClockLaw" 26 yX11_price ∈ mjGLw := List.mem_append_left _ (List.mem_of_getElem? (i := 22) rfl)
theorem wl23 : Cond.instanceMethod yX11_price ∈ mjGLw := List.mem_append_left _ (List.mem_of_getElem? (i := 23) rfl)
theorem wl24 : Cond.selects "LookAtClock" yX11_price yX11_price ∈ mjGLw := List.mem_append_left _ (List.mem_of_getElem? (i := 24) rfl)
theorem wl25 : Cond.code yX12_price cX12_price 2 (some .int) ∈ mjGLw := List.mem_append_left _ (List.mem_of_getElem? (i := 25) rfl)
theorem wl26 : Cond.methodLink "LookAtClockLaw" 29 yX12_price ∈ mjGLw := List.mem_append_left _ (List.mem_of_getElem? (i := 26) rfl)
theorem wl27 : Cond.instanceMethod yX12_price ∈ mjGLw := List.mem_append_left _ (List.mem_of_getElem? (i := 27) rfl)
theorem wl28 : Cond.selects "LookAtClockModel" yX12_price yX12_price ∈ mjGLw := List.mem_append_left _ (List.mem_of_getElem? (i := 28) rfl)
theorem wl29 : Cond.code yX11_law cX11_law 3 (some .int) ∈ mjGLw := List.mem_append_left _ (List.mem_of_getElem? (i := 29) rfl)
theorem wl30 : Cond.methodLink "LookAtClockLaw" 30 yX11_law ∈ mjGLw := List.mem_append_left _ (List.mem_of_getElem? (i := 30) rfl)
theorem wl31 : Cond.instanceMethod yX11_law ∈ mjGLw := List.mem_append_left _ (List.mem_of_getElem? (i := 31) rfl)
theorem wl32 : Cond.selects "LookAtClock" yX11_law yX11_law ∈ mjGLw := List.mem_append_left _ (List.mem_of_getElem? (i := 32) rfl)
theorem wl33 : Cond.code yX12_law cX12_law 3 (some .int) ∈ mjGLw := List.mem_append_left _ (List.mem_of_getElem? (i := 33) rfl)
theorem wl34 : Cond.methodLink "LookAtClockLaw" 33 yX12_law ∈ mjGLw := List.mem_append_left _ (List.mem_of_getElem? (i := 34) rfl)
theorem wl35 : Cond.instanceMethod yX12_law ∈ mjGLw := List.mem_append_left _ (List.mem_of_getElem? (i := 35) rfl)
theorem wl36 : Cond.selects "LookAtClockModel" yX12_law yX12_law ∈ mjGLw := List.mem_append_left _ (List.mem_of_getElem? (i := 36) rfl)
theorem wl37 : Cond.code yX11_work cX11_work 3 (some .int) ∈ mjGLw := List.mem_append_left _ (List.mem_of_getElem? (i := 37) rfl)
theorem wl38 : Cond.methodLink "LookAtClockLaw" 34 yX11_work ∈ mjGLw := List.mem_append_left _ (List.mem_of_getElem? (i := 38) rfl)
theorem wl39 : Cond.instanceMethod yX11_work ∈ mjGLw := List.mem_append_left _ (List.mem_of_getElem? (i := 39) rfl)
theorem wl40 : Cond.selects "LookAtClock" yX11_work yX11_work ∈ mjGLw := List.mem_append_right _ (List.mem_append_left _ (List.mem_of_getElem? (i := 0) rfl))
theorem wl41 : Cond.code yX12_work cX12_work 3 (some .int) ∈ mjGLw := List.mem_append_right _ (List.mem_append_left _ (List.mem_of_getElem? (i := 1) rfl))
theorem wl42 : Cond.methodLink "LookAtClockLaw" 38 yX12_work ∈ mjGLw := List.mem_append_right _ (List.mem_append_left _ (List.mem_of_getElem? (i := 2) rfl))
theorem wl43 : Cond.instanceMethod yX12_work ∈ mjGLw := List.mem_append_right _ (List.mem_append_left _ (List.mem_of_getElem? (i := 3) rfl))
theorem wl44 : Cond.selects "LookAtClockModel" yX12_work yX12_work ∈ mjGLw := List.mem_append_right _ (List.mem_append_left _ (List.mem_of_getElem? (i := 4) rfl))
theorem wl45 : Cond.code yX11_looker cX11_looker 4 (some .int) ∈ mjGLw := List.mem_append_right _ (List.mem_append_left _ (List.mem_of_getElem? (i := 5) rfl))
theorem wl46 : Cond.methodLink "LookAtClockLaw" 39 yX11_looker ∈ mjGLw := List.mem_append_right _ (List.mem_append_left _ (List.mem_of_getElem? (i := 6) rfl))
theorem wl47 : Cond.instanceMethod yX11_looker ∈ mjGLw := List.mem_append_right _ (List.mem_append_left _ (List.mem_of_getElem? (i := 7) rfl))
theorem wl48 : Cond.selects "LookAtClock" yX11_looker yX11_looker ∈ mjGLw := List.mem_append_right _ (List.mem_append_left _ (List.mem_of_getElem? (i := 8) rfl))
theorem wl49 : Cond.code yX12_looker cX12_looker 3 (some .int) ∈ mjGLw := List.mem_append_right _ (List.mem_append_left _ (List.mem_of_getElem? (i := 9) rfl))
theorem wl50 : Cond.methodLink "LookAtClockLaw" 42 yX12_looker ∈ mjGLw := List.mem_append_right _ (List.mem_append_left _ (List.mem_of_getElem? (i := 10) rfl))
theorem wl51 : Cond.instanceMethod yX12_looker ∈ mjGLw := List.mem_append_right _ (List.mem_append_left _ (List.mem_of_getElem? (i := 11) rfl))
theorem wl52 : Cond.selects "LookAtClockModel" yX12_looker yX12_looker ∈ mjGLw := List.mem_append_right _ (List.mem_append_left _ (List.mem_of_getElem? (i := 12) rfl))
theorem wl53 : Cond.code yX11_drift cX11_drift 3 (some .int) ∈ mjGLw := List.mem_append_right _ (List.mem_append_left _ (List.mem_of_getElem? (i := 13) rfl))
theorem wl54 : Cond.methodLink "LookAtClockLaw" 43 yX11_drift ∈ mjGLw := List.mem_append_right _ (List.mem_append_left _ (List.mem_of_getElem? (i := 14) rfl))
theorem wl55 : Cond.instanceMethod yX11_drift ∈ mjGLw := List.mem_append_right _ (List.mem_append_left _ (List.mem_of_getElem? (i := 15) rfl))
theorem wl56 : Cond.selects "LookAtClock" yX11_drift yX11_drift ∈ mjGLw := List.mem_append_right _ (List.mem_append_left _ (List.mem_of_getElem? (i := 16) rfl))
theorem wl57 : Cond.code yX12_drift cX12_drift 2 (some .int) ∈ mjGLw := List.mem_append_right _ (List.mem_append_left _ (List.mem_of_getElem? (i := 17) rfl))
theorem wl58 : Cond.methodLink "LookAtClockLaw" 46 yX12_drift ∈ mjGLw := List.mem_append_right _ (List.mem_append_left _ (List.mem_of_getElem? (i := 18) rfl))
theorem wl59 : Cond.instanceMethod yX12_drift ∈ mjGLw := List.mem_append_right _ (List.mem_append_left _ (List.mem_of_getElem? (i := 19) rfl))
theorem wl60 : Cond.selects "LookAtClockModel" yX12_drift yX12_drift ∈ mjGLw := List.mem_append_right _ (List.mem_append_left _ (List.mem_of_getElem? (i := 20) rfl))
theorem wl61 : Cond.code yX11_thinks cX11_thinks 5 (some .int) ∈ mjGLw := List.mem_append_right _ (List.mem_append_left _ (List.mem_of_getElem? (i := 21) rfl))
theorem wl62 : Cond.methodLink "LookAtClockLaw" 47 yX11_thinks ∈ mjGLw := List.mem_append_right _ (List.mem_append_left _ (List.mem_of_getElem? (i := 22) rfl))
theorem wl63 : Cond.instanceMethod yX11_thinks ∈ mjGLw := List.mem_append_right _ (List.mem_append_left _ (List.mem_of_getElem? (i := 23) rfl))
theorem wl64 : Cond.selects "LookAtClock" yX11_thinks yX11_thinks ∈ mjGLw := List.mem_append_right _ (List.mem_append_left _ (List.mem_of_getElem? (i := 24) rfl))
theorem wl65 : Cond.code yX12_thinks cX12_thinks 4 (some .int) ∈ mjGLw := List.mem_append_right _ (List.mem_append_left _ (List.mem_of_getElem? (i := 25) rfl))
theorem wl66 : Cond.methodLink "LookAtClockLaw" 51 yX12_thinks ∈ mjGLw := List.mem_append_right _ (List.mem_append_left _ (List.mem_of_getElem? (i := 26) rfl))
theorem wl67 : Cond.instanceMethod yX12_thinks ∈ mjGLw := List.mem_append_right _ (List.mem_append_left _ (List.mem_of_getElem? (i := 27) rfl))
theorem wl68 : Cond.selects "LookAtClockModel" yX12_thinks yX12_thinks ∈ mjGLw := List.mem_append_right _ (List.mem_append_left _ (List.mem_of_getElem? (i := 28) rfl))
theorem wl69 : Cond.code yX11_day cX11_day 4 (some .int) ∈ mjGLw := List.mem_append_right _ (List.mem_append_left _ (List.mem_of_getElem? (i := 29) rfl))
theorem wl70 : Cond.methodLink "LookAtClockLaw" 52 yX11_day ∈ mjGLw := List.mem_append_right _ (List.mem_append_left _ (List.mem_of_getElem? (i := 30) rfl))
theorem wl71 : Cond.instanceMethod yX11_day ∈ mjGLw := List.mem_append_right _ (List.mem_append_left _ (List.mem_of_getElem? (i := 31) rfl))
theorem wl72 : Cond.selects "LookAtClock" yX11_day yX11_day ∈ mjGLw := List.mem_append_right _ (List.mem_append_left _ (List.mem_of_getElem? (i := 32) rfl))
theorem wl73 : Cond.code yX12_day cX12_day 4 (some .int) ∈ mjGLw := List.mem_append_right _ (List.mem_append_left _ (List.mem_of_getElem? (i := 33) rfl))
theorem wl74 : Cond.methodLink "LookAtClockLaw" 55 yX12_day ∈ mjGLw := List.mem_append_right _ (List.mem_append_left _ (List.mem_of_getElem? (i := 34) rfl))
theorem wl75 : Cond.instanceMethod yX12_day ∈ mjGLw := List.mem_append_right _ (List.mem_append_left _ (List.mem_of_getElem? (i := 35) rfl))
theorem wl76 : Cond.selects "LookAtClockModel" yX12_day yX12_day ∈ mjGLw := List.mem_append_right _ (List.mem_append_left _ (List.mem_of_getElem? (i := 36) rfl))
theorem wl77 : Cond.code yX11_look cX11_look 4 (some .int) ∈ mjGLw := List.mem_append_right _ (List.mem_append_left _ (List.mem_of_getElem? (i := 37) rfl))
theorem wl78 : Cond.methodLink "LookAtClockLaw" 56 yX11_look ∈ mjGLw := List.mem_append_right _ (List.mem_append_left _ (List.mem_of_getElem? (i := 38) rfl))
theorem wl79 : Cond.instanceMethod yX11_look ∈ mjGLw := List.mem_append_right _ (List.mem_append_left _ (List.mem_of_getElem? (i := 39) rfl))
theorem wl80 : Cond.selects "LookAtClock" yX11_look yX11_look ∈ mjGLw := List.mem_append_right _ (List.mem_append_right _ (List.mem_append_left _ (List.mem_of_getElem? (i := 0) rfl)))
theorem wl81 : Cond.code yX12_look cX12_look 3 (some .int) ∈ mjGLw := List.mem_append_right _ (List.mem_append_right _ (List.mem_append_left _ (List.mem_of_getElem? (i := 1) rfl)))
theorem wl82 : Cond.methodLink "LookAtClockLaw" 59 yX12_look ∈ mjGLw := List.mem_append_right _ (List.mem_append_right _ (List.mem_append_left _ (List.mem_of_getElem? (i := 2) rfl)))
theorem wl83 : Cond.instanceMethod yX12_look ∈ mjGLw := List.mem_append_right _ (List.mem_append_right _ (List.mem_append_left _ (List.mem_of_getElem? (i := 3) rfl)))
theorem wl84 : Cond.selects "LookAtClockModel" yX12_look yX12_look ∈ mjGLw := List.mem_append_right _ (List.mem_append_right _ (List.mem_append_left _ (List.mem_of_getElem? (i := 4) rfl)))
theorem wl85 : Cond.code yX11_comes cX11_comes 4 (some .int) ∈ mjGLw := List.mem_append_right _ (List.mem_append_right _ (List.mem_append_left _ (List.mem_of_getElem? (i := 5) rfl)))
theorem wl86 : Cond.methodLink "LookAtClockLaw" 60 yX11_comes ∈ mjGLw := List.mem_append_right _ (List.mem_append_right _ (List.mem_append_left _ (List.mem_of_getElem? (i := 6) rfl)))
theorem wl87 : Cond.instanceMethod yX11_comes ∈ mjGLw := List.mem_append_right _ (List.mem_append_right _ (List.mem_append_left _ (List.mem_of_getElem? (i := 7) rfl)))
theorem wl88 : Cond.selects "LookAtClock" yX11_comes yX11_comes ∈ mjGLw := List.mem_append_right _ (List.mem_append_right _ (List.mem_append_left _ (List.mem_of_getElem? (i := 8) rfl)))
theorem wl89 : Cond.code yX12_comes cX12_comes 3 (some .int) ∈ mjGLw := List.mem_append_right _ (List.mem_append_right _ (List.mem_append_left _ (List.mem_of_getElem? (i := 9) rfl)))
theorem wl90 : Cond.methodLink "LookAtClockLaw" 63 yX12_comes ∈ mjGLw := List.mem_append_right _ (List.mem_append_right _ (List.mem_append_left _ (List.mem_of_getElem? (i := 10) rfl)))
theorem wl91 : Cond.instanceMethod yX12_comes ∈ mjGLw := List.mem_append_right _ (List.mem_append_right _ (List.mem_append_left _ (List.mem_of_getElem? (i := 11) rfl)))
theorem wl92 : Cond.selects "LookAtClockModel" yX12_comes yX12_comes ∈ mjGLw := List.mem_append_right _ (List.mem_append_right _ (List.mem_append_left _ (List.mem_of_getElem? (i := 12) rfl)))
theorem wl93 : Cond.code yX11_bestFigure cX11_bestFigure 3 (some .int) ∈ mjGLw := List.mem_append_right _ (List.mem_append_right _ (List.mem_append_left _ (List.mem_of_getElem? (i := 13) rfl)))
theorem wl94 : Cond.methodLink "LookAtClockLaw" 64 yX11_bestFigure ∈ mjGLw := List.mem_append_right _ (List.mem_append_right _ (List.mem_append_left _ (List.mem_of_getElem? (i := 14) rfl)))
theorem wl95 : Cond.instanceMethod yX11_bestFigure ∈ mjGLw := List.mem_append_right _ (List.mem_append_right _ (List.mem_append_left _ (List.mem_of_getElem? (i := 15) rfl)))
theorem wl96 : Cond.selects "LookAtClock" yX11_bestFigure yX11_bestFigure ∈ mjGLw := List.mem_append_right _ (List.mem_append_right _ (List.mem_append_left _ (List.mem_of_getElem? (i := 16) rfl)))
theorem wl97 : Cond.code yX12_bestFigure cX12_bestFigure 2 (some .int) ∈ mjGLw := List.mem_append_right _ (List.mem_append_right _ (List.mem_append_left _ (List.mem_of_getElem? (i := 17) rfl)))
theorem wl98 : Cond.methodLink "LookAtClockLaw" 67 yX12_bestFigure ∈ mjGLw := List.mem_append_right _ (List.mem_append_right _ (List.mem_append_left _ (List.mem_of_getElem? (i := 18) rfl)))
theorem wl99 : Cond.instanceMethod yX12_bestFigure ∈ mjGLw := List.mem_append_right _ (List.mem_append_right _ (List.mem_append_left _ (List.mem_of_getElem? (i := 19) rfl)))
theorem wl100 : Cond.selects "LookAtClockModel" yX12_bestFigure yX12_bestFigure ∈ mjGLw := List.mem_append_right _ (List.mem_append_right _ (List.mem_append_left _ (List.mem_of_getElem? (i := 20) rfl)))
theorem wl101 : Cond.code yX11_always cX11_always 5 (some .int) ∈ mjGLw := List.mem_append_right _ (List.mem_append_right _ (List.mem_append_left _ (List.mem_of_getElem? (i := 21) rfl)))
theorem wl102 : Cond.methodLink "LookAtClockLaw" 68 yX11_always ∈ mjGLw := List.mem_append_right _ (List.mem_append_right _ (List.mem_append_left _ (List.mem_of_getElem? (i := 22) rfl)))
theorem wl103 : Cond.instanceMethod yX11_always ∈ mjGLw := List.mem_append_right _ (List.mem_append_right _ (List.mem_append_left _ (List.mem_of_getElem? (i := 23) rfl)))
theorem wl104 : Cond.selects "LookAtClock" yX11_always yX11_always ∈ mjGLw := List.mem_append_right _ (List.mem_append_right _ (List.mem_append_left _ (List.mem_of_getElem? (i := 24) rfl)))
theorem wl105 : Cond.code yX12_always cX12_always 3 (some .int) ∈ mjGLw := List.mem_append_right _ (List.mem_append_right _ (List.mem_append_left _ (List.mem_of_getElem? (i := 25) rfl)))
theorem wl106 : Cond.methodLink "LookAtClockLaw" 71 yX12_always ∈ mjGLw := List.mem_append_right _ (List.mem_append_right _ (List.mem_append_left _ (List.mem_of_getElem? (i := 26) rfl)))
theorem wl107 : Cond.instanceMethod yX12_always ∈ mjGLw := List.mem_append_right _ (List.mem_append_right _ (List.mem_append_left _ (List.mem_of_getElem? (i := 27) rfl)))
theorem wl108 : Cond.selects "LookAtClockModel" yX12_always yX12_always ∈ mjGLw := List.mem_append_right _ (List.mem_append_right _ (List.mem_append_left _ (List.mem_of_getElem? (i := 28) rfl)))
theorem wl109 : Cond.code yX11_pays cX11_pays 4 (some .int) ∈ mjGLw := List.mem_append_right _ (List.mem_append_right _ (List.mem_append_left _ (List.mem_of_getElem? (i := 29) rfl)))
theorem wl110 : Cond.methodLink "LookAtClockLaw" 72 yX11_pays ∈ mjGLw := List.mem_append_right _ (List.mem_append_right _ (List.mem_append_left _ (List.mem_of_getElem? (i := 30) rfl)))
theorem wl111 : Cond.instanceMethod yX11_pays ∈ mjGLw := List.mem_append_right _ (List.mem_append_right _ (List.mem_append_left _ (List.mem_of_getElem? (i := 31) rfl)))
theorem wl112 : Cond.selects "LookAtClock" yX11_pays yX11_pays ∈ mjGLw := List.mem_append_right _ (List.mem_append_right _ (List.mem_append_left _ (List.mem_of_getElem? (i := 32) rfl)))
theorem wl113 : Cond.code yX12_pays_ cX12_pays_ 2 (some .int) ∈ mjGLw := List.mem_append_right _ (List.mem_append_right _ (List.mem_append_left _ (List.mem_of_getElem? (i := 33) rfl)))
theorem wl114 : Cond.methodLink "LookAtClockLaw" 75 yX12_pays_ ∈ mjGLw := List.mem_append_right _ (List.mem_append_right _ (List.mem_append_left _ (List.mem_of_getElem? (i := 34) rfl)))
theorem wl115 : Cond.instanceMethod yX12_pays_ ∈ mjGLw := List.mem_append_right _ (List.mem_append_right _ (List.mem_append_left _ (List.mem_of_getElem? (i := 35) rfl)))
theorem wl116 : Cond.selects "LookAtClockModel" yX12_pays_ yX12_pays_ ∈ mjGLw := List.mem_append_right _ (List.mem_append_right _ (List.mem_append_left _ (List.mem_of_getElem? (i := 36) rfl)))
theorem wl117 : Cond.code yX11_bestKind cX11_bestKind 6 (some .int) ∈ mjGLw := List.mem_append_right _ (List.mem_append_right _ (List.mem_append_left _ (List.mem_of_getElem? (i := 37) rfl)))
theorem wl118 : Cond.methodLink "LookAtClockLaw" 76 yX11_bestKind ∈ mjGLw := List.mem_append_right _ (List.mem_append_right _ (List.mem_append_left _ (List.mem_of_getElem? (i := 38) rfl)))
theorem wl119 : Cond.instanceMethod yX11_bestKind ∈ mjGLw := List.mem_append_right _ (List.mem_append_right _ (List.mem_append_left _ (List.mem_of_getElem? (i := 39) rfl)))
theorem wl120 : Cond.selects "LookAtClock" yX11_bestKind yX11_bestKind ∈ mjGLw := List.mem_append_right _ (List.mem_append_right _ (List.mem_append_right _ (List.mem_append_left _ (List.mem_of_getElem? (i := 0) rfl))))
theorem wl121 : Cond.code yX12_bestKind cX12_bestKind 6 (some .int) ∈ mjGLw := List.mem_append_right _ (List.mem_append_right _ (List.mem_append_right _ (List.mem_append_left _ (List.mem_of_getElem? (i := 1) rfl))))
theorem wl122 : Cond.methodLink "LookAtClockLaw" 79 yX12_bestKind ∈ mjGLw := List.mem_append_right _ (List.mem_append_right _ (List.mem_append_right _ (List.mem_append_left _ (List.mem_of_getElem? (i := 2) rfl))))
theorem wl123 : Cond.instanceMethod yX12_bestKind ∈ mjGLw := List.mem_append_right _ (List.mem_append_right _ (List.mem_append_right _ (List.mem_append_left _ (List.mem_of_getElem? (i := 3) rfl))))
theorem wl124 : Cond.selects "LookAtClockModel" yX12_bestKind yX12_bestKind ∈ mjGLw := List.mem_append_right _ (List.mem_append_right _ (List.mem_append_right _ (List.mem_append_left _ (List.mem_of_getElem? (i := 4) rfl))))
theorem wl125 : Cond.code yX11_edge cX11_edge 6 (some .int) ∈ mjGLw := List.mem_append_right _ (List.mem_append_right _ (List.mem_append_right _ (List.mem_append_left _ (List.mem_of_getElem? (i := 5) rfl))))
theorem wl126 : Cond.methodLink "LookAtClockLaw" 80 yX11_edge ∈ mjGLw := List.mem_append_right _ (List.mem_append_right _ (List.mem_append_right _ (List.mem_append_left _ (List.mem_of_getElem? (i := 6) rfl))))
theorem wl127 : Cond.instanceMethod yX11_edge ∈ mjGLw := List.mem_append_right _ (List.mem_append_right _ (List.mem_append_right _ (List.mem_append_left _ (List.mem_of_getElem? (i := 7) rfl))))
theorem wl128 : Cond.selects "LookAtClock" yX11_edge yX11_edge ∈ mjGLw := List.mem_append_right _ (List.mem_append_right _ (List.mem_append_right _ (List.mem_append_left _ (List.mem_of_getElem? (i := 8) rfl))))
theorem wl129 : Cond.code yX12_edge cX12_edge 4 (some .int) ∈ mjGLw := List.mem_append_right _ (List.mem_append_right _ (List.mem_append_right _ (List.mem_append_left _ (List.mem_of_getElem? (i := 9) rfl))))
theorem wl130 : Cond.methodLink "LookAtClockLaw" 83 yX12_edge ∈ mjGLw := List.mem_append_right _ (List.mem_append_right _ (List.mem_append_right _ (List.mem_append_left _ (List.mem_of_getElem? (i := 10) rfl))))
theorem wl131 : Cond.instanceMethod yX12_edge ∈ mjGLw := List.mem_append_right _ (List.mem_append_right _ (List.mem_append_right _ (List.mem_append_left _ (List.mem_of_getElem? (i := 11) rfl))))
theorem wl132 : Cond.selects "LookAtClockModel" yX12_edge yX12_edge ∈ mjGLw := List.mem_append_right _ (List.mem_append_right _ (List.mem_append_right _ (List.mem_append_left _ (List.mem_of_getElem? (i := 12) rfl))))
theorem wl133 : Cond.code yX11_waits cX11_waits 4 (some .int) ∈ mjGLw := List.mem_append_right _ (List.mem_append_right _ (List.mem_append_right _ (List.mem_append_left _ (List.mem_of_getElem? (i := 13) rfl))))
theorem wl134 : Cond.methodLink "LookAtClockLaw" 84 yX11_waits ∈ mjGLw := List.mem_append_right _ (List.mem_append_right _ (List.mem_append_right _ (List.mem_append_left _ (List.mem_of_getElem? (i := 14) rfl))))
theorem wl135 : Cond.instanceMethod yX11_waits ∈ mjGLw := List.mem_append_right _ (List.mem_append_right _ (List.mem_append_right _ (List.mem_append_left _ (List.mem_of_getElem? (i := 15) rfl))))
theorem wl136 : Cond.selects "LookAtClock" yX11_waits yX11_waits ∈ mjGLw := List.mem_append_right _ (List.mem_append_right _ (List.mem_append_right _ (List.mem_append_left _ (List.mem_of_getElem? (i := 16) rfl))))
theorem wl137 : Cond.code yX12_waits cX12_waits 4 (some .int) ∈ mjGLw := List.mem_append_right _ (List.mem_append_right _ (List.mem_append_right _ (List.mem_append_left _ (List.mem_of_getElem? (i := 17) rfl))))
theorem wl138 : Cond.methodLink "LookAtClockLaw" 87 yX12_waits ∈ mjGLw := List.mem_append_right _ (List.mem_append_right _ (List.mem_append_right _ (List.mem_append_left _ (List.mem_of_getElem? (i := 18) rfl))))
theorem wl139 : Cond.instanceMethod yX12_waits ∈ mjGLw := List.mem_append_right _ (List.mem_append_right _ (List.mem_append_right _ (List.mem_append_left _ (List.mem_of_getElem? (i := 19) rfl))))
theorem wl140 : Cond.selects "LookAtClockModel" yX12_waits yX12_waits ∈ mjGLw := List.mem_append_right _ (List.mem_append_right _ (List.mem_append_right _ (List.mem_append_left _ (List.mem_of_getElem? (i := 20) rfl))))
theorem wl141 : Cond.code yX11_learn cX11_learn 9 (some .int) ∈ mjGLw := List.mem_append_right _ (List.mem_append_right _ (List.mem_append_right _ (List.mem_append_left _ (List.mem_of_getElem? (i := 21) rfl))))
theorem wl142 : Cond.methodLink "LookAtClockLaw" 88 yX11_learn ∈ mjGLw := List.mem_append_right _ (List.mem_append_right _ (List.mem_append_right _ (List.mem_append_left _ (List.mem_of_getElem? (i := 22) rfl))))
theorem wl143 : Cond.instanceMethod yX11_learn ∈ mjGLw := List.mem_append_right _ (List.mem_append_right _ (List.mem_append_right _ (List.mem_append_left _ (List.mem_of_getElem? (i := 23) rfl))))
theorem wl144 : Cond.selects "LookAtClock" yX11_learn yX11_learn ∈ mjGLw := List.mem_append_right _ (List.mem_append_right _ (List.mem_append_right _ (List.mem_append_left _ (List.mem_of_getElem? (i := 24) rfl))))
theorem wl145 : Cond.code yX12_learn cX12_learn 11 (some .int) ∈ mjGLw := List.mem_append_right _ (List.mem_append_right _ (List.mem_append_right _ (List.mem_append_left _ (List.mem_of_getElem? (i := 25) rfl))))
theorem wl146 : Cond.methodLink "LookAtClockLaw" 91 yX12_learn ∈ mjGLw := List.mem_append_right _ (List.mem_append_right _ (List.mem_append_right _ (List.mem_append_left _ (List.mem_of_getElem? (i := 26) rfl))))
theorem wl147 : Cond.instanceMethod yX12_learn ∈ mjGLw := List.mem_append_right _ (List.mem_append_right _ (List.mem_append_right _ (List.mem_append_left _ (List.mem_of_getElem? (i := 27) rfl))))
theorem wl148 : Cond.selects "LookAtClockModel" yX12_learn yX12_learn ∈ mjGLw := List.mem_append_right _ (List.mem_append_right _ (List.mem_append_right _ (List.mem_append_left _ (List.mem_of_getElem? (i := 28) rfl))))
theorem wl149 : Cond.code yX11_shared cX11_shared 3 (some .int) ∈ mjGLw := List.mem_append_right _ (List.mem_append_right _ (List.mem_append_right _ (List.mem_append_left _ (List.mem_of_getElem? (i := 29) rfl))))
theorem wl150 : Cond.methodLink "LookAtClockLaw" 92 yX11_shared ∈ mjGLw := List.mem_append_right _ (List.mem_append_right _ (List.mem_append_right _ (List.mem_append_left _ (List.mem_of_getElem? (i := 30) rfl))))
theorem wl151 : Cond.instanceMethod yX11_shared ∈ mjGLw := List.mem_append_right _ (List.mem_append_right _ (List.mem_append_right _ (List.mem_append_left _ (List.mem_of_getElem? (i := 31) rfl))))
theorem wl152 : Cond.selects "LookAtClock" yX11_shared yX11_shared ∈ mjGLw := List.mem_append_right _ (List.mem_append_right _ (List.mem_append_right _ (List.mem_append_left _ (List.mem_of_getElem? (i := 32) rfl))))
theorem wl153 : Cond.code yX12_shared cX12_shared 3 (some .int) ∈ mjGLw := List.mem_append_right _ (List.mem_append_right _ (List.mem_append_right _ (List.mem_append_left _ (List.mem_of_getElem? (i := 33) rfl))))
theorem wl154 : Cond.methodLink "LookAtClockLaw" 95 yX12_shared ∈ mjGLw := List.mem_append_right _ (List.mem_append_right _ (List.mem_append_right _ (List.mem_append_left _ (List.mem_of_getElem? (i := 34) rfl))))
theorem wl155 : Cond.instanceMethod yX12_shared ∈ mjGLw := List.mem_append_right _ (List.mem_append_right _ (List.mem_append_right _ (List.mem_append_left _ (List.mem_of_getElem? (i := 35) rfl))))
theorem wl156 : Cond.selects "LookAtClockModel" yX12_shared yX12_shared ∈ mjGLw := List.mem_append_right _ (List.mem_append_right _ (List.mem_append_right _ (List.mem_append_left _ (List.mem_of_getElem? (i := 36) rfl))))
theorem wl157 : Cond.code yX11_nine cX11_nine 5 (some .int) ∈ mjGLw := List.mem_append_right _ (List.mem_append_right _ (List.mem_append_right _ (List.mem_append_left _ (List.mem_of_getElem? (i := 37) rfl))))
theorem wl158 : Cond.methodLink "LookAtClockLaw" 96 yX11_nine ∈ mjGLw := List.mem_append_right _ (List.mem_append_right _ (List.mem_append_right _ (List.mem_append_left _ (List.mem_of_getElem? (i := 38) rfl))))
theorem wl159 : Cond.instanceMethod yX11_nine ∈ mjGLw := List.mem_append_right _ (List.mem_append_right _ (List.mem_append_right _ (List.mem_append_left _ (List.mem_of_getElem? (i := 39) rfl))))
theorem wl160 : Cond.selects "LookAtClock" yX11_nine yX11_nine ∈ mjGLw := List.mem_append_right _ (List.mem_append_right _ (List.mem_append_right _ (List.mem_append_right _ (List.mem_append_left _ (List.mem_of_getElem? (i := 0) rfl)))))
theorem wl161 : Cond.code yX12_nine cX12_nine 4 (some .int) ∈ mjGLw := List.mem_append_right _ (List.mem_append_right _ (List.mem_append_right _ (List.mem_append_right _ (List.mem_append_left _ (List.mem_of_getElem? (i := 1) rfl)))))
theorem wl162 : Cond.methodLink "LookAtClockLaw" 99 yX12_nine ∈ mjGLw := List.mem_append_right _ (List.mem_append_right _ (List.mem_append_right _ (List.mem_append_right _ (List.mem_append_left _ (List.mem_of_getElem? (i := 2) rfl)))))
theorem wl163 : Cond.instanceMethod yX12_nine ∈ mjGLw := List.mem_append_right _ (List.mem_append_right _ (List.mem_append_right _ (List.mem_append_right _ (List.mem_append_left _ (List.mem_of_getElem? (i := 3) rfl)))))
theorem wl164 : Cond.selects "LookAtClockModel" yX12_nine yX12_nine ∈ mjGLw := List.mem_append_right _ (List.mem_append_right _ (List.mem_append_right _ (List.mem_append_right _ (List.mem_append_left _ (List.mem_of_getElem? (i := 4) rfl)))))
theorem wl165 : Cond.code yX11_buys cX11_buys 5 (some .int) ∈ mjGLw := List.mem_append_right _ (List.mem_append_right _ (List.mem_append_right _ (List.mem_append_right _ (List.mem_append_left _ (List.mem_of_getElem? (i := 5) rfl)))))
theorem wl166 : Cond.methodLink "LookAtClockLaw" 100 yX11_buys ∈ mjGLw := List.mem_append_right _ (List.mem_append_right _ (List.mem_append_right _ (List.mem_append_right _ (List.mem_append_left _ (List.mem_of_getElem? (i := 6) rfl)))))
theorem wl167 : Cond.instanceMethod yX11_buys ∈ mjGLw := List.mem_append_right _ (List.mem_append_right _ (List.mem_append_right _ (List.mem_append_right _ (List.mem_append_left _ (List.mem_of_getElem? (i := 7) rfl)))))
theorem wl168 : Cond.selects "LookAtClock" yX11_buys yX11_buys ∈ mjGLw := List.mem_append_right _ (List.mem_append_right _ (List.mem_append_right _ (List.mem_append_right _ (List.mem_append_left _ (List.mem_of_getElem? (i := 8) rfl)))))
theorem wl169 : Cond.code yX12_buys cX12_buys 5 (some .int) ∈ mjGLw := List.mem_append_right _ (List.mem_append_right _ (List.mem_append_right _ (List.mem_append_right _ (List.mem_append_left _ (List.mem_of_getElem? (i := 9) rfl)))))
theorem wl170 : Cond.methodLink "LookAtClockLaw" 104 yX12_buys ∈ mjGLw := List.mem_append_right _ (List.mem_append_right _ (List.mem_append_right _ (List.mem_append_right _ (List.mem_append_left _ (List.mem_of_getElem? (i := 10) rfl)))))
theorem wl171 : Cond.instanceMethod yX12_buys ∈ mjGLw := List.mem_append_right _ (List.mem_append_right _ (List.mem_append_right _ (List.mem_append_right _ (List.mem_append_left _ (List.mem_of_getElem? (i := 11) rfl)))))
theorem wl172 : Cond.selects "LookAtClockModel" yX12_buys yX12_buys ∈ mjGLw := List.mem_append_right _ (List.mem_append_right _ (List.mem_append_right _ (List.mem_append_right _ (List.mem_append_left _ (List.mem_of_getElem? (i := 12) rfl)))))
theorem wl173 : Cond.code yX11_rest cX11_rest 5 (some .int) ∈ mjGLw := List.mem_append_right _ (List.mem_append_right _ (List.mem_append_right _ (List.mem_append_right _ (List.mem_append_left _ (List.mem_of_getElem? (i := 13) rfl)))))
theorem wl174 : Cond.methodLink "LookAtClockLaw" 105 yX11_rest ∈ mjGLw := List.mem_append_right _ (List.mem_append_right _ (List.mem_append_right _ (List.mem_append_right _ (List.mem_append_left _ (List.mem_of_getElem? (i := 14) rfl)))))
theorem wl175 : Cond.instanceMethod yX11_rest ∈ mjGLw := List.mem_append_right _ (List.mem_append_right _ (List.mem_append_right _ (List.mem_append_right _ (List.mem_append_left _ (List.mem_of_getElem? (i := 15) rfl)))))
theorem wl176 : Cond.selects "LookAtClock" yX11_rest yX11_rest ∈ mjGLw := List.mem_append_right _ (List.mem_append_right _ (List.mem_append_right _ (List.mem_append_right _ (List.mem_append_left _ (List.mem_of_getElem? (i := 16) rfl)))))
theorem wl177 : Cond.code yX12_rest cX12_rest 6 (some .int) ∈ mjGLw := List.mem_append_right _ (List.mem_append_right _ (List.mem_append_right _ (List.mem_append_right _ (List.mem_append_left _ (List.mem_of_getElem? (i := 17) rfl)))))
theorem wl178 : Cond.methodLink "LookAtClockLaw" 108 yX12_rest ∈ mjGLw := List.mem_append_right _ (List.mem_append_right _ (List.mem_append_right _ (List.mem_append_right _ (List.mem_append_left _ (List.mem_of_getElem? (i := 18) rfl)))))
theorem wl179 : Cond.instanceMethod yX12_rest ∈ mjGLw := List.mem_append_right _ (List.mem_append_right _ (List.mem_append_right _ (List.mem_append_right _ (List.mem_append_left _ (List.mem_of_getElem? (i := 19) rfl)))))
theorem wl180 : Cond.selects "LookAtClockModel" yX12_rest yX12_rest ∈ mjGLw := List.mem_append_right _ (List.mem_append_right _ (List.mem_append_right _ (List.mem_append_right _ (List.mem_append_left _ (List.mem_of_getElem? (i := 20) rfl)))))
theorem wl181 : Cond.code yX11_cheaper cX11_cheaper 2 (some .int) ∈ mjGLw := List.mem_append_right _ (List.mem_append_right _ (List.mem_append_right _ (List.mem_append_right _ (List.mem_append_left _ (List.mem_of_getElem? (i := 21) rfl)))))
theorem wl182 : Cond.methodLink "LookAtClockLaw" 109 yX11_cheaper ∈ mjGLw := List.mem_append_right _ (List.mem_append_right _ (List.mem_append_right _ (List.mem_append_right _ (List.mem_append_left _ (List.mem_of_getElem? (i := 22) rfl)))))
theorem wl183 : Cond.instanceMethod yX11_cheaper ∈ mjGLw := List.mem_append_right _ (List.mem_append_right _ (List.mem_append_right _ (List.mem_append_right _ (List.mem_append_left _ (List.mem_of_getElem? (i := 23) rfl)))))
theorem wl184 : Cond.selects "LookAtClock" yX11_cheaper yX11_cheaper ∈ mjGLw := List.mem_append_right _ (List.mem_append_right _ (List.mem_append_right _ (List.mem_append_right _ (List.mem_append_left _ (List.mem_of_getElem? (i := 24) rfl)))))
theorem wl185 : Cond.code yX12_cheaper cX12_cheaper 2 (some .int) ∈ mjGLw := List.mem_append_right _ (List.mem_append_right _ (List.mem_append_right _ (List.mem_append_right _ (List.mem_append_left _ (List.mem_of_getElem? (i := 25) rfl)))))
theorem wl186 : Cond.methodLink "LookAtClockLaw" 112 yX12_cheaper ∈ mjGLw := List.mem_append_right _ (List.mem_append_right _ (List.mem_append_right _ (List.mem_append_right _ (List.mem_append_left _ (List.mem_of_getElem? (i := 26) rfl)))))
theorem wl187 : Cond.instanceMethod yX12_cheaper ∈ mjGLw := List.mem_append_right _ (List.mem_append_right _ (List.mem_append_right _ (List.mem_append_right _ (List.mem_append_left _ (List.mem_of_getElem? (i := 27) rfl)))))
theorem wl188 : Cond.selects "LookAtClockModel" yX12_cheaper yX12_cheaper ∈ mjGLw := List.mem_append_right _ (List.mem_append_right _ (List.mem_append_right _ (List.mem_append_right _ (List.mem_append_left _ (List.mem_of_getElem? (i := 28) rfl)))))
theorem wl189 : Cond.code yX11_otherCheaper cX11_otherCheaper 3 (some .int) ∈ mjGLw := List.mem_append_right _ (List.mem_append_right _ (List.mem_append_right _ (List.mem_append_right _ (List.mem_append_left _ (List.mem_of_getElem? (i := 29) rfl)))))
theorem wl190 : Cond.methodLink "LookAtClockLaw" 113 yX11_otherCheaper ∈ mjGLw := List.mem_append_right _ (List.mem_append_right _ (List.mem_append_right _ (List.mem_append_right _ (List.mem_append_left _ (List.mem_of_getElem? (i := 30) rfl)))))
theorem wl191 : Cond.instanceMethod yX11_otherCheaper ∈ mjGLw := List.mem_append_right _ (List.mem_append_right _ (List.mem_append_right _ (List.mem_append_right _ (List.mem_append_left _ (List.mem_of_getElem? (i := 31) rfl)))))
theorem wl192 : Cond.selects "LookAtClock" yX11_otherCheaper yX11_otherCheaper ∈ mjGLw := List.mem_append_right _ (List.mem_append_right _ (List.mem_append_right _ (List.mem_append_right _ (List.mem_append_left _ (List.mem_of_getElem? (i := 32) rfl)))))
theorem wl193 : Cond.code yX12_otherCheaper cX12_otherCheaper 3 (some .int) ∈ mjGLw := List.mem_append_right _ (List.mem_append_right _ (List.mem_append_right _ (List.mem_append_right _ (List.mem_append_left _ (List.mem_of_getElem? (i := 33) rfl)))))
theorem wl194 : Cond.methodLink "LookAtClockLaw" 117 yX12_otherCheaper ∈ mjGLw := List.mem_append_right _ (List.mem_append_right _ (List.mem_append_right _ (List.mem_append_right _ (List.mem_append_left _ (List.mem_of_getElem? (i := 34) rfl)))))
theorem wl195 : Cond.instanceMethod yX12_otherCheaper ∈ mjGLw := List.mem_append_right _ (List.mem_append_right _ (List.mem_append_right _ (List.mem_append_right _ (List.mem_append_left _ (List.mem_of_getElem? (i := 35) rfl)))))
theorem wl196 : Cond.selects "LookAtClockModel" yX12_otherCheaper yX12_otherCheaper ∈ mjGLw := List.mem_append_right _ (List.mem_append_right _ (List.mem_append_right _ (List.mem_append_right _ (List.mem_append_left _ (List.mem_of_getElem? (i := 36) rfl)))))
theorem wl197 : Cond.code yX11_byLaw cX11_byLaw 4 (some .int) ∈ mjGLw := List.mem_append_right _ (List.mem_append_right _ (List.mem_append_right _ (List.mem_append_right _ (List.mem_append_left _ (List.mem_of_getElem? (i := 37) rfl)))))
theorem wl198 : Cond.methodLink "LookAtClockLaw" 118 yX11_byLaw ∈ mjGLw := List.mem_append_right _ (List.mem_append_right _ (List.mem_append_right _ (List.mem_append_right _ (List.mem_append_left _ (List.mem_of_getElem? (i := 38) rfl)))))
theorem wl199 : Cond.instanceMethod yX11_byLaw ∈ mjGLw := List.mem_append_right _ (List.mem_append_right _ (List.mem_append_right _ (List.mem_append_right _ (List.mem_append_left _ (List.mem_of_getElem? (i := 39) rfl)))))
theorem wl200 : Cond.selects "LookAtClock" yX11_byLaw yX11_byLaw ∈ mjGLw := List.mem_append_right _ (List.mem_append_right _ (List.mem_append_right _ (List.mem_append_right _ (List.mem_append_right _ (List.mem_append_left _ (List.mem_of_getElem? (i := 0) rfl))))))
theorem wl201 : Cond.code yX12_byLaw cX12_byLaw 3 (some .int) ∈ mjGLw := List.mem_append_right _ (List.mem_append_right _ (List.mem_append_right _ (List.mem_append_right _ (List.mem_append_right _ (List.mem_append_left _ (List.mem_of_getElem? (i := 1) rfl))))))
theorem wl202 : Cond.methodLink "LookAtClockLaw" 121 yX12_byLaw ∈ mjGLw := List.mem_append_right _ (List.mem_append_right _ (List.mem_append_right _ (List.mem_append_right _ (List.mem_append_right _ (List.mem_append_left _ (List.mem_of_getElem? (i := 2) rfl))))))
theorem wl203 : Cond.instanceMethod yX12_byLaw ∈ mjGLw := List.mem_append_right _ (List.mem_append_right _ (List.mem_append_right _ (List.mem_append_right _ (List.mem_append_right _ (List.mem_append_left _ (List.mem_of_getElem? (i := 3) rfl))))))
theorem wl204 : Cond.selects "LookAtClockModel" yX12_byLaw yX12_byLaw ∈ mjGLw := List.mem_append_right _ (List.mem_append_right _ (List.mem_append_right _ (List.mem_append_right _ (List.mem_append_right _ (List.mem_append_left _ (List.mem_of_getElem? (i := 4) rfl))))))
theorem wl205 : Cond.code yX11_sum cX11_sum 3 (some .int) ∈ mjGLw := List.mem_append_right _ (List.mem_append_right _ (List.mem_append_right _ (List.mem_append_right _ (List.mem_append_right _ (List.mem_append_left _ (List.mem_of_getElem? (i := 5) rfl))))))
theorem wl206 : Cond.methodLink "LookAtClockLaw" 122 yX11_sum ∈ mjGLw := List.mem_append_right _ (List.mem_append_right _ (List.mem_append_right _ (List.mem_append_right _ (List.mem_append_right _ (List.mem_append_left _ (List.mem_of_getElem? (i := 6) rfl))))))
theorem wl207 : Cond.instanceMethod yX11_sum ∈ mjGLw := List.mem_append_right _ (List.mem_append_right _ (List.mem_append_right _ (List.mem_append_right _ (List.mem_append_right _ (List.mem_append_left _ (List.mem_of_getElem? (i := 7) rfl))))))
theorem wl208 : Cond.selects "LookAtClock" yX11_sum yX11_sum ∈ mjGLw := List.mem_append_right _ (List.mem_append_right _ (List.mem_append_right _ (List.mem_append_right _ (List.mem_append_right _ (List.mem_append_left _ (List.mem_of_getElem? (i := 8) rfl))))))
theorem wl209 : Cond.code yX12_sum cX12_sum 3 (some .int) ∈ mjGLw := List.mem_append_right _ (List.mem_append_right _ (List.mem_append_right _ (List.mem_append_right _ (List.mem_append_right _ (List.mem_append_left _ (List.mem_of_getElem? (i := 9) rfl))))))
theorem wl210 : Cond.methodLink "LookAtClockLaw" 125 yX12_sum ∈ mjGLw := List.mem_append_right _ (List.mem_append_right _ (List.mem_append_right _ (List.mem_append_right _ (List.mem_append_right _ (List.mem_append_left _ (List.mem_of_getElem? (i := 10) rfl))))))
theorem wl211 : Cond.instanceMethod yX12_sum ∈ mjGLw := List.mem_append_right _ (List.mem_append_right _ (List.mem_append_right _ (List.mem_append_right _ (List.mem_append_right _ (List.mem_append_left _ (List.mem_of_getElem? (i := 11) rfl))))))
theorem wl212 : Cond.selects "LookAtClockModel" yX12_sum yX12_sum ∈ mjGLw := List.mem_append_right _ (List.mem_append_right _ (List.mem_append_right _ (List.mem_append_right _ (List.mem_append_right _ (List.mem_append_left _ (List.mem_of_getElem? (i := 12) rfl))))))
theorem wl213 : Cond.code yX11_order cX11_order 3 (some .int) ∈ mjGLw := List.mem_append_right _ (List.mem_append_right _ (List.mem_append_right _ (List.mem_append_right _ (List.mem_append_right _ (List.mem_append_left _ (List.mem_of_getElem? (i := 13) rfl))))))
theorem wl214 : Cond.methodLink "LookAtClockLaw" 126 yX11_order ∈ mjGLw := List.mem_append_right _ (List.mem_append_right _ (List.mem_append_right _ (List.mem_append_right _ (List.mem_append_right _ (List.mem_append_left _ (List.mem_of_getElem? (i := 14) rfl))))))
theorem wl215 : Cond.instanceMethod yX11_order ∈ mjGLw := List.mem_append_right _ (List.mem_append_right _ (List.mem_append_right _ (List.mem_append_right _ (List.mem_append_right _ (List.mem_append_left _ (List.mem_of_getElem? (i := 15) rfl))))))
theorem wl216 : Cond.selects "LookAtClock" yX11_order yX11_order ∈ mjGLw := List.mem_append_right _ (List.mem_append_right _ (List.mem_append_right _ (List.mem_append_right _ (List.mem_append_right _ (List.mem_append_left _ (List.mem_of_getElem? (i := 16) rfl))))))
theorem wl217 : Cond.code yX12_order cX12_order 7 (some .int) ∈ mjGLw := List.mem_append_right _ (List.mem_append_right _ (List.mem_append_right _ (List.mem_append_right _ (List.mem_append_right _ (List.mem_append_left _ (List.mem_of_getElem? (i := 17) rfl))))))
theorem wl218 : Cond.methodLink "LookAtClockLaw" 129 yX12_order ∈ mjGLw := List.mem_append_right _ (List.mem_append_right _ (List.mem_append_right _ (List.mem_append_right _ (List.mem_append_right _ (List.mem_append_left _ (List.mem_of_getElem? (i := 18) rfl))))))
theorem wl219 : Cond.instanceMethod yX12_order ∈ mjGLw := List.mem_append_right _ (List.mem_append_right _ (List.mem_append_right _ (List.mem_append_right _ (List.mem_append_right _ (List.mem_append_left _ (List.mem_of_getElem? (i := 19) rfl))))))
theorem wl220 : Cond.selects "LookAtClockModel" yX12_order yX12_order ∈ mjGLw := List.mem_append_right _ (List.mem_append_right _ (List.mem_append_right _ (List.mem_append_right _ (List.mem_append_right _ (List.mem_append_left _ (List.mem_of_getElem? (i := 20) rfl))))))
theorem wl221 : Cond.code yX11_seeded cX11_seeded 13 (some .int) ∈ mjGLw := List.mem_append_right _ (List.mem_append_right _ (List.mem_append_right _ (List.mem_append_right _ (List.mem_append_right _ (List.mem_append_left _ (List.mem_of_getElem? (i := 21) rfl))))))
theorem wl222 : Cond.methodLink "LookAtClockLaw" 130 yX11_seeded ∈ mjGLw := List.mem_append_right _ (List.mem_append_right _ (List.mem_append_right _ (List.mem_append_right _ (List.mem_append_right _ (List.mem_append_left _ (List.mem_of_getElem? (i := 22) rfl))))))
theorem wl223 : Cond.instanceMethod yX11_seeded ∈ mjGLw := List.mem_append_right _ (List.mem_append_right _ (List.mem_append_right _ (List.mem_append_right _ (List.mem_append_right _ (List.mem_append_left _ (List.mem_of_getElem? (i := 23) rfl))))))
theorem wl224 : Cond.selects "LookAtClock" yX11_seeded yX11_seeded ∈ mjGLw := List.mem_append_right _ (List.mem_append_right _ (List.mem_append_right _ (List.mem_append_right _ (List.mem_append_right _ (List.mem_append_left _ (List.mem_of_getElem? (i := 24) rfl))))))
theorem wl225 : Cond.code yX12_seeded cX12_seeded 12 (some .int) ∈ mjGLw := List.mem_append_right _ (List.mem_append_right _ (List.mem_append_right _ (List.mem_append_right _ (List.mem_append_right _ (List.mem_append_left _ (List.mem_of_getElem? (i := 25) rfl))))))
theorem wl226 : Cond.methodLink "LookAtClockLaw" 133 yX12_seeded ∈ mjGLw := List.mem_append_right _ (List.mem_append_right _ (List.mem_append_right _ (List.mem_append_right _ (List.mem_append_right _ (List.mem_append_left _ (List.mem_of_getElem? (i := 26) rfl))))))
theorem wl227 : Cond.instanceMethod yX12_seeded ∈ mjGLw := List.mem_append_right _ (List.mem_append_right _ (List.mem_append_right _ (List.mem_append_right _ (List.mem_append_right _ (List.mem_append_left _ (List.mem_of_getElem? (i := 27) rfl))))))
theorem wl228 : Cond.selects "LookAtClockModel" yX12_seeded yX12_seeded ∈ mjGLw := List.mem_append_right _ (List.mem_append_right _ (List.mem_append_right _ (List.mem_append_right _ (List.mem_append_right _ (List.mem_append_left _ (List.mem_of_getElem? (i := 28) rfl))))))
theorem wl229 : Cond.code yX11_judge cX11_judge 9 (some .int) ∈ mjGLw := List.mem_append_right _ (List.mem_append_right _ (List.mem_append_right _ (List.mem_append_right _ (List.mem_append_right _ (List.mem_append_left _ (List.mem_of_getElem? (i := 29) rfl))))))
theorem wl230 : Cond.methodLink "LookAtClockLaw" 134 yX11_judge ∈ mjGLw := List.mem_append_right _ (List.mem_append_right _ (List.mem_append_right _ (List.mem_append_right _ (List.mem_append_right _ (List.mem_append_left _ (List.mem_of_getElem? (i := 30) rfl))))))
theorem wl231 : Cond.instanceMethod yX11_judge ∈ mjGLw := List.mem_append_right _ (List.mem_append_right _ (List.mem_append_right _ (List.mem_append_right _ (List.mem_append_right _ (List.mem_append_left _ (List.mem_of_getElem? (i := 31) rfl))))))
theorem wl232 : Cond.selects "LookAtClock" yX11_judge yX11_judge ∈ mjGLw := List.mem_append_right _ (List.mem_append_right _ (List.mem_append_right _ (List.mem_append_right _ (List.mem_append_right _ (List.mem_append_left _ (List.mem_of_getElem? (i := 32) rfl))))))
theorem wl233 : Cond.code yX12_judge cX12_judge 6 (some .int) ∈ mjGLw := List.mem_append_right _ (List.mem_append_right _ (List.mem_append_right _ (List.mem_append_right _ (List.mem_append_right _ (List.mem_append_left _ (List.mem_of_getElem? (i := 33) rfl))))))
theorem wl234 : Cond.methodLink "LookAtClockLaw" 137 yX12_judge ∈ mjGLw := List.mem_append_right _ (List.mem_append_right _ (List.mem_append_right _ (List.mem_append_right _ (List.mem_append_right _ (List.mem_append_left _ (List.mem_of_getElem? (i := 34) rfl))))))
theorem wl235 : Cond.instanceMethod yX12_judge ∈ mjGLw := List.mem_append_right _ (List.mem_append_right _ (List.mem_append_right _ (List.mem_append_right _ (List.mem_append_right _ (List.mem_append_left _ (List.mem_of_getElem? (i := 35) rfl))))))
theorem wl236 : Cond.selects "LookAtClockModel" yX12_judge yX12_judge ∈ mjGLw := List.mem_append_right _ (List.mem_append_right _ (List.mem_append_right _ (List.mem_append_right _ (List.mem_append_right _ (List.mem_append_left _ (List.mem_of_getElem? (i := 36) rfl))))))
theorem wl237 : Cond.code yX11_image cX11_image 1 (some .int) ∈ mjGLw := List.mem_append_right _ (List.mem_append_right _ (List.mem_append_right _ (List.mem_append_right _ (List.mem_append_right _ (List.mem_append_left _ (List.mem_of_getElem? (i := 37) rfl))))))
theorem wl238 : Cond.methodLink "LookAtClockLaw" 138 yX11_image ∈ mjGLw := List.mem_append_right _ (List.mem_append_right _ (List.mem_append_right _ (List.mem_append_right _ (List.mem_append_right _ (List.mem_append_left _ (List.mem_of_getElem? (i := 38) rfl))))))
theorem wl239 : Cond.instanceMethod yX11_image ∈ mjGLw := List.mem_append_right _ (List.mem_append_right _ (List.mem_append_right _ (List.mem_append_right _ (List.mem_append_right _ (List.mem_append_left _ (List.mem_of_getElem? (i := 39) rfl))))))
theorem wl240 : Cond.selects "LookAtClock" yX11_image yX11_image ∈ mjGLw := List.mem_append_right _ (List.mem_append_right _ (List.mem_append_right _ (List.mem_append_right _ (List.mem_append_right _ (List.mem_append_right _ (List.mem_append_left _ (List.mem_of_getElem? (i := 0) rfl)))))))
theorem wl241 : Cond.code yX12_image cX12_image 1 (some .int) ∈ mjGLw := List.mem_append_right _ (List.mem_append_right _ (List.mem_append_right _ (List.mem_append_right _ (List.mem_append_right _ (List.mem_append_right _ (List.mem_append_left _ (List.mem_of_getElem? (i := 1) rfl)))))))
theorem wl242 : Cond.methodLink "LookAtClockLaw" 141 yX12_image ∈ mjGLw := List.mem_append_right _ (List.mem_append_right _ (List.mem_append_right _ (List.mem_append_right _ (List.mem_append_right _ (List.mem_append_right _ (List.mem_append_left _ (List.mem_of_getElem? (i := 2) rfl)))))))
theorem wl243 : Cond.instanceMethod yX12_image ∈ mjGLw := List.mem_append_right _ (List.mem_append_right _ (List.mem_append_right _ (List.mem_append_right _ (List.mem_append_right _ (List.mem_append_right _ (List.mem_append_left _ (List.mem_of_getElem? (i := 3) rfl)))))))
theorem wl244 : Cond.selects "LookAtClockModel" yX12_image yX12_image ∈ mjGLw := List.mem_append_right _ (List.mem_append_right _ (List.mem_append_right _ (List.mem_append_right _ (List.mem_append_right _ (List.mem_append_right _ (List.mem_append_left _ (List.mem_of_getElem? (i := 4) rfl)))))))
theorem wl245 : Cond.code yX11_restore cX11_restore 1 (some .int) ∈ mjGLw := List.mem_append_right _ (List.mem_append_right _ (List.mem_append_right _ (List.mem_append_right _ (List.mem_append_right _ (List.mem_append_right _ (List.mem_append_left _ (List.mem_of_getElem? (i := 5) rfl)))))))
theorem wl246 : Cond.methodLink "LookAtClockLaw" 142 yX11_restore ∈ mjGLw := List.mem_append_right _ (List.mem_append_right _ (List.mem_append_right _ (List.mem_append_right _ (List.mem_append_right _ (List.mem_append_right _ (List.mem_append_left _ (List.mem_of_getElem? (i := 6) rfl)))))))
theorem wl247 : Cond.instanceMethod yX11_restore ∈ mjGLw := List.mem_append_right _ (List.mem_append_right _ (List.mem_append_right _ (List.mem_append_right _ (List.mem_append_right _ (List.mem_append_right _ (List.mem_append_left _ (List.mem_of_getElem? (i := 7) rfl)))))))
theorem wl248 : Cond.selects "LookAtClock" yX11_restore yX11_restore ∈ mjGLw := List.mem_append_right _ (List.mem_append_right _ (List.mem_append_right _ (List.mem_append_right _ (List.mem_append_right _ (List.mem_append_right _ (List.mem_append_left _ (List.mem_of_getElem? (i := 8) rfl)))))))
theorem wl249 : Cond.code yX12_restore cX12_restore 1 (some .int) ∈ mjGLw := List.mem_append_right _ (List.mem_append_right _ (List.mem_append_right _ (List.mem_append_right _ (List.mem_append_right _ (List.mem_append_right _ (List.mem_append_left _ (List.mem_of_getElem? (i := 9) rfl)))))))
theorem wl250 : Cond.methodLink "LookAtClockLaw" 145 yX12_restore ∈ mjGLw := List.mem_append_right _ (List.mem_append_right _ (List.mem_append_right _ (List.mem_append_right _ (List.mem_append_right _ (List.mem_append_right _ (List.mem_append_left _ (List.mem_of_getElem? (i := 10) rfl)))))))
theorem wl251 : Cond.instanceMethod yX12_restore ∈ mjGLw := List.mem_append_right _ (List.mem_append_right _ (List.mem_append_right _ (List.mem_append_right _ (List.mem_append_right _ (List.mem_append_right _ (List.mem_append_left _ (List.mem_of_getElem? (i := 11) rfl)))))))
theorem wl252 : Cond.selects "LookAtClockModel" yX12_restore yX12_restore ∈ mjGLw := List.mem_append_right _ (List.mem_append_right _ (List.mem_append_right _ (List.mem_append_right _ (List.mem_append_right _ (List.mem_append_right _ (List.mem_append_left _ (List.mem_of_getElem? (i := 12) rfl)))))))
theorem wl253 : Cond.code yX11_count cX11_count 2 (some .int) ∈ mjGLw := List.mem_append_right _ (List.mem_append_right _ (List.mem_append_right _ (List.mem_append_right _ (List.mem_append_right _ (List.mem_append_right _ (List.mem_append_left _ (List.mem_of_getElem? (i := 13) rfl)))))))
theorem wl254 : Cond.methodLink "LookAtClockLaw" 146 yX11_count ∈ mjGLw := List.mem_append_right _ (List.mem_append_right _ (List.mem_append_right _ (List.mem_append_right _ (List.mem_append_right _ (List.mem_append_right _ (List.mem_append_left _ (List.mem_of_getElem? (i := 14) rfl)))))))
theorem wl255 : Cond.instanceMethod yX11_count ∈ mjGLw := List.mem_append_right _ (List.mem_append_right _ (List.mem_append_right _ (List.mem_append_right _ (List.mem_append_right _ (List.mem_append_right _ (List.mem_append_left _ (List.mem_of_getElem? (i := 15) rfl)))))))
theorem wl256 : Cond.selects "LookAtClock" yX11_count yX11_count ∈ mjGLw := List.mem_append_right _ (List.mem_append_right _ (List.mem_append_right _ (List.mem_append_right _ (List.mem_append_right _ (List.mem_append_right _ (List.mem_append_left _ (List.mem_of_getElem? (i := 16) rfl)))))))
theorem wl257 : Cond.code yX12_count cX12_count 4 (some .int) ∈ mjGLw := List.mem_append_right _ (List.mem_append_right _ (List.mem_append_right _ (List.mem_append_right _ (List.mem_append_right _ (List.mem_append_right _ (List.mem_append_left _ (List.mem_of_getElem? (i := 17) rfl)))))))
theorem wl258 : Cond.methodLink "LookAtClockLaw" 149 yX12_count ∈ mjGLw := List.mem_append_right _ (List.mem_append_right _ (List.mem_append_right _ (List.mem_append_right _ (List.mem_append_right _ (List.mem_append_right _ (List.mem_append_left _ (List.mem_of_getElem? (i := 18) rfl)))))))
theorem wl259 : Cond.instanceMethod yX12_count ∈ mjGLw := List.mem_append_right _ (List.mem_append_right _ (List.mem_append_right _ (List.mem_append_right _ (List.mem_append_right _ (List.mem_append_right _ (List.mem_append_left _ (List.mem_of_getElem? (i := 19) rfl)))))))
theorem wl260 : Cond.selects "LookAtClockModel" yX12_count yX12_count ∈ mjGLw := List.mem_append_right _ (List.mem_append_right _ (List.mem_append_right _ (List.mem_append_right _ (List.mem_append_right _ (List.mem_append_right _ (List.mem_append_left _ (List.mem_of_getElem? (i := 20) rfl)))))))
theorem wl261 : Cond.code yX11_keep cX11_keep 5 (some .int) ∈ mjGLw := List.mem_append_right _ (List.mem_append_right _ (List.mem_append_right _ (List.mem_append_right _ (List.mem_append_right _ (List.mem_append_right _ (List.mem_append_left _ (List.mem_of_getElem? (i := 21) rfl)))))))
theorem wl262 : Cond.methodLink "LookAtClockLaw" 150 yX11_keep ∈ mjGLw := List.mem_append_right _ (List.mem_append_right _ (List.mem_append_right _ (List.mem_append_right _ (List.mem_append_right _ (List.mem_append_right _ (List.mem_append_left _ (List.mem_of_getElem? (i := 22) rfl)))))))
theorem wl263 : Cond.instanceMethod yX11_keep ∈ mjGLw := List.mem_append_right _ (List.mem_append_right _ (List.mem_append_right _ (List.mem_append_right _ (List.mem_append_right _ (List.mem_append_right _ (List.mem_append_left _ (List.mem_of_getElem? (i := 23) rfl)))))))
theorem wl264 : Cond.selects "LookAtClock" yX11_keep yX11_keep ∈ mjGLw := List.mem_append_right _ (List.mem_append_right _ (List.mem_append_right _ (List.mem_append_right _ (List.mem_append_right _ (List.mem_append_right _ (List.mem_append_left _ (List.mem_of_getElem? (i := 24) rfl)))))))
theorem wl265 : Cond.code yX12_keep cX12_keep 4 (some .int) ∈ mjGLw := List.mem_append_right _ (List.mem_append_right _ (List.mem_append_right _ (List.mem_append_right _ (List.mem_append_right _ (List.mem_append_right _ (List.mem_append_left _ (List.mem_of_getElem? (i := 25) rfl)))))))
theorem wl266 : Cond.methodLink "LookAtClockLaw" 153 yX12_keep ∈ mjGLw := List.mem_append_right _ (List.mem_append_right _ (List.mem_append_right _ (List.mem_append_right _ (List.mem_append_right _ (List.mem_append_right _ (List.mem_append_left _ (List.mem_of_getElem? (i := 26) rfl)))))))
theorem wl267 : Cond.instanceMethod yX12_keep ∈ mjGLw := List.mem_append_right _ (List.mem_append_right _ (List.mem_append_right _ (List.mem_append_right _ (List.mem_append_right _ (List.mem_append_right _ (List.mem_append_left _ (List.mem_of_getElem? (i := 27) rfl)))))))
theorem wl268 : Cond.selects "LookAtClockModel" yX12_keep yX12_keep ∈ mjGLw := List.mem_append_right _ (List.mem_append_right _ (List.mem_append_right _ (List.mem_append_right _ (List.mem_append_right _ (List.mem_append_right _ (List.mem_append_left _ (List.mem_of_getElem? (i := 28) rfl)))))))
theorem wl269 : Cond.code yX11_row cX11_row 5 (some .int) ∈ mjGLw := List.mem_append_right _ (List.mem_append_right _ (List.mem_append_right _ (List.mem_append_right _ (List.mem_append_right _ (List.mem_append_right _ (List.mem_append_left _ (List.mem_of_getElem? (i := 29) rfl)))))))
theorem wl270 : Cond.methodLink "LookAtClockLaw" 154 yX11_row ∈ mjGLw := List.mem_append_right _ (List.mem_append_right _ (List.mem_append_right _ (List.mem_append_right _ (List.mem_append_right _ (List.mem_append_right _ (List.mem_append_left _ (List.mem_of_getElem? (i := 30) rfl)))))))
theorem wl271 : Cond.instanceMethod yX11_row ∈ mjGLw := List.mem_append_right _ (List.mem_append_right _ (List.mem_append_right _ (List.mem_append_right _ (List.mem_append_right _ (List.mem_append_right _ (List.mem_append_left _ (List.mem_of_getElem? (i := 31) rfl)))))))
theorem wl272 : Cond.selects "LookAtClock" yX11_row yX11_row ∈ mjGLw := List.mem_append_right _ (List.mem_append_right _ (List.mem_append_right _ (List.mem_append_right _ (List.mem_append_right _ (List.mem_append_right _ (List.mem_append_left _ (List.mem_of_getElem? (i := 32) rfl)))))))
theorem wl273 : Cond.code yX12_row cX12_row 5 (some .int) ∈ mjGLw := List.mem_append_right _ (List.mem_append_right _ (List.mem_append_right _ (List.mem_append_right _ (List.mem_append_right _ (List.mem_append_right _ (List.mem_append_left _ (List.mem_of_getElem? (i := 33) rfl)))))))
theorem wl274 : Cond.methodLink "LookAtClockLaw" 157 yX12_row ∈ mjGLw := List.mem_append_right _ (List.mem_append_right _ (List.mem_append_right _ (List.mem_append_right _ (List.mem_append_right _ (List.mem_append_right _ (List.mem_append_left _ (List.mem_of_getElem? (i := 34) rfl)))))))
theorem wl275 : Cond.instanceMethod yX12_row ∈ mjGLw := List.mem_append_right _ (List.mem_append_right _ (List.mem_append_right _ (List.mem_append_right _ (List.mem_append_right _ (List.mem_append_right _ (List.mem_append_left _ (List.mem_of_getElem? (i := 35) rfl)))))))
theorem wl276 : Cond.selects "LookAtClockModel" yX12_row yX12_row ∈ mjGLw := List.mem_append_right _ (List.mem_append_right _ (List.mem_append_right _ (List.mem_append_right _ (List.mem_append_right _ (List.mem_append_right _ (List.mem_append_left _ (List.mem_of_getElem? (i := 36) rfl)))))))
theorem wl277 : Cond.code yX11_put cX11_put 6 (some .int) ∈ mjGLw := List.mem_append_right _ (List.mem_append_right _ (List.mem_append_right _ (List.mem_append_right _ (List.mem_append_right _ (List.mem_append_right _ (List.mem_append_left _ (List.mem_of_getElem? (i := 37) rfl)))))))
theorem wl278 : Cond.methodLink "LookAtClockLaw" 158 yX11_put ∈ mjGLw := List.mem_append_right _ (List.mem_append_right _ (List.mem_append_right _ (List.mem_append_right _ (List.mem_append_right _ (List.mem_append_right _ (List.mem_append_left _ (List.mem_of_getElem? (i := 38) rfl)))))))
theorem wl279 : Cond.instanceMethod yX11_put ∈ mjGLw := List.mem_append_right _ (List.mem_append_right _ (List.mem_append_right _ (List.mem_append_right _ (List.mem_append_right _ (List.mem_append_right _ (List.mem_append_left _ (List.mem_of_getElem? (i := 39) rfl)))))))
theorem wl280 : Cond.selects "LookAtClock" yX11_put yX11_put ∈ mjGLw := List.mem_append_right _ (List.mem_append_right _ (List.mem_append_right _ (List.mem_append_right _ (List.mem_append_right _ (List.mem_append_right _ (List.mem_append_right _ (List.mem_of_getElem? (i := 0) rfl)))))))
theorem wl281 : Cond.code yX12_put cX12_put 4 (some .int) ∈ mjGLw := List.mem_append_right _ (List.mem_append_right _ (List.mem_append_right _ (List.mem_append_right _ (List.mem_append_right _ (List.mem_append_right _ (List.mem_append_right _ (List.mem_of_getElem? (i := 1) rfl)))))))
theorem wl282 : Cond.methodLink "LookAtClockLaw" 161 yX12_put ∈ mjGLw := List.mem_append_right _ (List.mem_append_right _ (List.mem_append_right _ (List.mem_append_right _ (List.mem_append_right _ (List.mem_append_right _ (List.mem_append_right _ (List.mem_of_getElem? (i := 2) rfl)))))))
theorem wl283 : Cond.instanceMethod yX12_put ∈ mjGLw := List.mem_append_right _ (List.mem_append_right _ (List.mem_append_right _ (List.mem_append_right _ (List.mem_append_right _ (List.mem_append_right _ (List.mem_append_right _ (List.mem_of_getElem? (i := 3) rfl)))))))
theorem wl284 : Cond.selects "LookAtClockModel" yX12_put yX12_put ∈ mjGLw := List.mem_append_right _ (List.mem_append_right _ (List.mem_append_right _ (List.mem_append_right _ (List.mem_append_right _ (List.mem_append_right _ (List.mem_append_right _ (List.mem_of_getElem? (i := 4) rfl)))))))
theorem wl285 : Cond.code yX12_element cX12_element 3 (some .long) ∈ mjGLw := List.mem_append_right _ (List.mem_append_right _ (List.mem_append_right _ (List.mem_append_right _ (List.mem_append_right _ (List.mem_append_right _ (List.mem_append_right _ (List.mem_of_getElem? (i := 5) rfl)))))))
theorem wl286 : Cond.methodLink "LookAtClockLaw" 167 yX12_element ∈ mjGLw := List.mem_append_right _ (List.mem_append_right _ (List.mem_append_right _ (List.mem_append_right _ (List.mem_append_right _ (List.mem_append_right _ (List.mem_append_right _ (List.mem_of_getElem? (i := 6) rfl)))))))
theorem wl287 : Cond.instanceMethod yX12_element ∈ mjGLw := List.mem_append_right _ (List.mem_append_right _ (List.mem_append_right _ (List.mem_append_right _ (List.mem_append_right _ (List.mem_append_right _ (List.mem_append_right _ (List.mem_of_getElem? (i := 7) rfl)))))))
theorem wl288 : Cond.selects "LookAtClockModel" yX12_element yX12_element ∈ mjGLw := List.mem_append_right _ (List.mem_append_right _ (List.mem_append_right _ (List.mem_append_right _ (List.mem_append_right _ (List.mem_append_right _ (List.mem_append_right _ (List.mem_of_getElem? (i := 8) rfl)))))))
theorem wl289 : Cond.code yX12_thrown cX12_thrown 1 (some .int) ∈ mjGLw := List.mem_append_right _ (List.mem_append_right _ (List.mem_append_right _ (List.mem_append_right _ (List.mem_append_right _ (List.mem_append_right _ (List.mem_append_right _ (List.mem_of_getElem? (i := 9) rfl)))))))
theorem wl290 : Cond.methodLink "LookAtClockLaw" 168 yX12_thrown ∈ mjGLw := List.mem_append_right _ (List.mem_append_right _ (List.mem_append_right _ (List.mem_append_right _ (List.mem_append_right _ (List.mem_append_right _ (List.mem_append_right _ (List.mem_of_getElem? (i := 10) rfl)))))))
theorem wl291 : Cond.instanceMethod yX12_thrown ∈ mjGLw := List.mem_append_right _ (List.mem_append_right _ (List.mem_append_right _ (List.mem_append_right _ (List.mem_append_right _ (List.mem_append_right _ (List.mem_append_right _ (List.mem_of_getElem? (i := 11) rfl)))))))
theorem wl292 : Cond.selects "LookAtClockModel" yX12_thrown yX12_thrown ∈ mjGLw := List.mem_append_right _ (List.mem_append_right _ (List.mem_append_right _ (List.mem_append_right _ (List.mem_append_right _ (List.mem_append_right _ (List.mem_append_right _ (List.mem_of_getElem? (i := 12) rfl)))))))
theorem wl293 : Cond.code yX11_copy cX11_copy 8 (some .int) ∈ mjGLw := List.mem_append_right _ (List.mem_append_right _ (List.mem_append_right _ (List.mem_append_right _ (List.mem_append_right _ (List.mem_append_right _ (List.mem_append_right _ (List.mem_of_getElem? (i := 13) rfl)))))))
theorem wl294 : Cond.methodLink "LookAtClockLaw" 171 yX11_copy ∈ mjGLw := List.mem_append_right _ (List.mem_append_right _ (List.mem_append_right _ (List.mem_append_right _ (List.mem_append_right _ (List.mem_append_right _ (List.mem_append_right _ (List.mem_of_getElem? (i := 14) rfl)))))))
theorem wl295 : Cond.instanceMethod yX11_copy ∈ mjGLw := List.mem_append_right _ (List.mem_append_right _ (List.mem_append_right _ (List.mem_append_right _ (List.mem_append_right _ (List.mem_append_right _ (List.mem_append_right _ (List.mem_of_getElem? (i := 15) rfl)))))))
theorem wl296 : Cond.selects "LookAtClock" yX11_copy yX11_copy ∈ mjGLw := List.mem_append_right _ (List.mem_append_right _ (List.mem_append_right _ (List.mem_append_right _ (List.mem_append_right _ (List.mem_append_right _ (List.mem_append_right _ (List.mem_of_getElem? (i := 16) rfl)))))))
theorem wl297 : Cond.code yX12_copy cX12_copy 7 (some .int) ∈ mjGLw := List.mem_append_right _ (List.mem_append_right _ (List.mem_append_right _ (List.mem_append_right _ (List.mem_append_right _ (List.mem_append_right _ (List.mem_append_right _ (List.mem_of_getElem? (i := 17) rfl)))))))
theorem wl298 : Cond.methodLink "LookAtClockLaw" 175 yX12_copy ∈ mjGLw := List.mem_append_right _ (List.mem_append_right _ (List.mem_append_right _ (List.mem_append_right _ (List.mem_append_right _ (List.mem_append_right _ (List.mem_append_right _ (List.mem_of_getElem? (i := 18) rfl)))))))
theorem wl299 : Cond.instanceMethod yX12_copy ∈ mjGLw := List.mem_append_right _ (List.mem_append_right _ (List.mem_append_right _ (List.mem_append_right _ (List.mem_append_right _ (List.mem_append_right _ (List.mem_append_right _ (List.mem_of_getElem? (i := 19) rfl)))))))
theorem wl300 : Cond.selects "LookAtClockModel" yX12_copy yX12_copy ∈ mjGLw := List.mem_append_right _ (List.mem_append_right _ (List.mem_append_right _ (List.mem_append_right _ (List.mem_append_right _ (List.mem_append_right _ (List.mem_append_right _ (List.mem_of_getElem? (i := 20) rfl)))))))
theorem wl301 : Cond.code yX11_skill cX11_skill 3 (some .int) ∈ mjGLw := List.mem_append_right _ (List.mem_append_right _ (List.mem_append_right _ (List.mem_append_right _ (List.mem_append_right _ (List.mem_append_right _ (List.mem_append_right _ (List.mem_of_getElem? (i := 21) rfl)))))))
theorem wl302 : Cond.methodLink "LookAtClockLaw" 176 yX11_skill ∈ mjGLw := List.mem_append_right _ (List.mem_append_right _ (List.mem_append_right _ (List.mem_append_right _ (List.mem_append_right _ (List.mem_append_right _ (List.mem_append_right _ (List.mem_of_getElem? (i := 22) rfl)))))))
theorem wl303 : Cond.instanceMethod yX11_skill ∈ mjGLw := List.mem_append_right _ (List.mem_append_right _ (List.mem_append_right _ (List.mem_append_right _ (List.mem_append_right _ (List.mem_append_right _ (List.mem_append_right _ (List.mem_of_getElem? (i := 23) rfl)))))))
theorem wl304 : Cond.selects "LookAtClock" yX11_skill yX11_skill ∈ mjGLw := List.mem_append_right _ (List.mem_append_right _ (List.mem_append_right _ (List.mem_append_right _ (List.mem_append_right _ (List.mem_append_right _ (List.mem_append_right _ (List.mem_of_getElem? (i := 24) rfl)))))))
theorem wl305 : Cond.code yX12_skill cX12_skill 2 (some .int) ∈ mjGLw := List.mem_append_right _ (List.mem_append_right _ (List.mem_append_right _ (List.mem_append_right _ (List.mem_append_right _ (List.mem_append_right _ (List.mem_append_right _ (List.mem_of_getElem? (i := 25) rfl)))))))
theorem wl306 : Cond.methodLink "LookAtClockLaw" 179 yX12_skill ∈ mjGLw := List.mem_append_right _ (List.mem_append_right _ (List.mem_append_right _ (List.mem_append_right _ (List.mem_append_right _ (List.mem_append_right _ (List.mem_append_right _ (List.mem_of_getElem? (i := 26) rfl)))))))
theorem wl307 : Cond.instanceMethod yX12_skill ∈ mjGLw := List.mem_append_right _ (List.mem_append_right _ (List.mem_append_right _ (List.mem_append_right _ (List.mem_append_right _ (List.mem_append_right _ (List.mem_append_right _ (List.mem_of_getElem? (i := 27) rfl)))))))
theorem wl308 : Cond.selects "LookAtClockModel" yX12_skill yX12_skill ∈ mjGLw := List.mem_append_right _ (List.mem_append_right _ (List.mem_append_right _ (List.mem_append_right _ (List.mem_append_right _ (List.mem_append_right _ (List.mem_append_right _ (List.mem_of_getElem? (i := 28) rfl)))))))
theorem wl309 : Cond.code yX12_toss cX12_toss 2 (some .int) ∈ mjGLw := List.mem_append_right _ (List.mem_append_right _ (List.mem_append_right _ (List.mem_append_right _ (List.mem_append_right _ (List.mem_append_right _ (List.mem_append_right _ (List.mem_of_getElem? (i := 29) rfl)))))))
theorem wl310 : Cond.methodLink "LookAtClockLaw" 183 yX12_toss ∈ mjGLw := List.mem_append_right _ (List.mem_append_right _ (List.mem_append_right _ (List.mem_append_right _ (List.mem_append_right _ (List.mem_append_right _ (List.mem_append_right _ (List.mem_of_getElem? (i := 30) rfl)))))))
theorem wl311 : Cond.instanceMethod yX12_toss ∈ mjGLw := List.mem_append_right _ (List.mem_append_right _ (List.mem_append_right _ (List.mem_append_right _ (List.mem_append_right _ (List.mem_append_right _ (List.mem_append_right _ (List.mem_of_getElem? (i := 31) rfl)))))))
theorem wl312 : Cond.selects "LookAtClockModel" yX12_toss yX12_toss ∈ mjGLw := List.mem_append_right _ (List.mem_append_right _ (List.mem_append_right _ (List.mem_append_right _ (List.mem_append_right _ (List.mem_append_right _ (List.mem_append_right _ (List.mem_of_getElem? (i := 32) rfl)))))))
theorem mjGLw_all : mjGLw.all goodWord = true := by decide +kernel
theorem kic_6 : Int32.ofInt 6 = 6 := by decide
theorem kbp_63 : (Int8.ofInt 63).toInt32 = 63 := by decide
theorem nl0 : "LookAtClock" ≠ "java/lang/invoke/MethodHandle" ∧ "LookAtClock" ≠ "java/lang/invoke/VarHandle" ∧ (parseMethodDescriptor "()V").map (fun d => d.parameters.length) = some 0 := by decide +kernel
theorem nl1 : "LookAtClockModel" ≠ "java/lang/invoke/MethodHandle" ∧ "LookAtClockModel" ≠ "java/lang/invoke/VarHandle" ∧ (parseMethodDescriptor "()V").map (fun d => d.parameters.length) = some 0 := by decide +kernel
theorem nl2 : "LookAtClock" = "LookAtClock" ∧ "LookAtClock" ≠ "java/lang/invoke/MethodHandle" ∧ "LookAtClock" ≠ "java/lang/invoke/VarHandle" ∧ (parseMethodDescriptor "(I)I").map (fun d => d.parameters.length) = some 1 := by decide +kernel
theorem nl3 : "LookAtClockModel" = "LookAtClockModel" ∧ "LookAtClockModel" ≠ "java/lang/invoke/MethodHandle" ∧ "LookAtClockModel" ≠ "java/lang/invoke/VarHandle" ∧ (parseMethodDescriptor "(I)I").map (fun d => d.parameters.length) = some 1 := by decide +kernel
theorem nl4 : "LookAtClock" = "LookAtClock" ∧ "LookAtClock" ≠ "java/lang/invoke/MethodHandle" ∧ "LookAtClock" ≠ "java/lang/invoke/VarHandle" ∧ (parseMethodDescriptor "(I)I").map (fun d => d.parameters.length) = some 1 := by decide +kernel
theorem nl5 : "LookAtClockModel" = "LookAtClockModel" ∧ "LookAtClockModel" ≠ "java/lang/invoke/MethodHandle" ∧ "LookAtClockModel" ≠ "java/lang/invoke/VarHandle" ∧ (parseMethodDescriptor "(I)I").map (fun d => d.parameters.length) = some 1 := by decide +kernel
theorem nl6 : "LookAtClock" = "LookAtClock" ∧ "LookAtClock" ≠ "java/lang/invoke/MethodHandle" ∧ "LookAtClock" ≠ "java/lang/invoke/VarHandle" ∧ (parseMethodDescriptor "(I)I").map (fun d => d.parameters.length) = some 1 := by decide +kernel
theorem nl7 : "LookAtClockModel" = "LookAtClockModel" ∧ "LookAtClockModel" ≠ "java/lang/invoke/MethodHandle" ∧ "LookAtClockModel" ≠ "java/lang/invoke/VarHandle" ∧ (parseMethodDescriptor "(I)I").map (fun d => d.parameters.length) = some 1 := by decide +kernel
theorem nl8 : "LookAtClock" = "LookAtClock" ∧ "LookAtClock" ≠ "java/lang/invoke/MethodHandle" ∧ "LookAtClock" ≠ "java/lang/invoke/VarHandle" ∧ (parseMethodDescriptor "(II)I").map (fun d => d.parameters.length) = some 2 := by decide +kernel
theorem nl9 : "LookAtClockModel" = "LookAtClockModel" ∧ "LookAtClockModel" ≠ "java/lang/invoke/MethodHandle" ∧ "LookAtClockModel" ≠ "java/lang/invoke/VarHandle" ∧ (parseMethodDescriptor "(II)I").map (fun d => d.parameters.length) = some 2 := by decide +kernel
theorem nl10 : "LookAtClock" = "LookAtClock" ∧ "LookAtClock" ≠ "java/lang/invoke/MethodHandle" ∧ "LookAtClock" ≠ "java/lang/invoke/VarHandle" ∧ (parseMethodDescriptor "(II)I").map (fun d => d.parameters.length) = some 2 := by decide +kernel
theorem nl11 : "LookAtClockModel" = "LookAtClockModel" ∧ "LookAtClockModel" ≠ "java/lang/invoke/MethodHandle" ∧ "LookAtClockModel" ≠ "java/lang/invoke/VarHandle" ∧ (parseMethodDescriptor "(II)I").map (fun d => d.parameters.length) = some 2 := by decide +kernel
theorem nl12 : "LookAtClock" = "LookAtClock" ∧ "LookAtClock" ≠ "java/lang/invoke/MethodHandle" ∧ "LookAtClock" ≠ "java/lang/invoke/VarHandle" ∧ (parseMethodDescriptor "(I)I").map (fun d => d.parameters.length) = some 1 := by decide +kernel
theorem nl13 : "LookAtClockModel" = "LookAtClockModel" ∧ "LookAtClockModel" ≠ "java/lang/invoke/MethodHandle" ∧ "LookAtClockModel" ≠ "java/lang/invoke/VarHandle" ∧ (parseMethodDescriptor "(I)I").map (fun d => d.parameters.length) = some 1 := by decide +kernel
theorem nl14 : "LookAtClock" = "LookAtClock" ∧ "LookAtClock" ≠ "java/lang/invoke/MethodHandle" ∧ "LookAtClock" ≠ "java/lang/invoke/VarHandle" ∧ (parseMethodDescriptor "(III)I").map (fun d => d.parameters.length) = some 3 := by decide +kernel
theorem nl15 : "LookAtClockModel" = "LookAtClockModel" ∧ "LookAtClockModel" ≠ "java/lang/invoke/MethodHandle" ∧ "LookAtClockModel" ≠ "java/lang/invoke/VarHandle" ∧ (parseMethodDescriptor "(III)I").map (fun d => d.parameters.length) = some 3 := by decide +kernel
theorem nl16 : "LookAtClock" = "LookAtClock" ∧ "LookAtClock" ≠ "java/lang/invoke/MethodHandle" ∧ "LookAtClock" ≠ "java/lang/invoke/VarHandle" ∧ (parseMethodDescriptor "(II)I").map (fun d => d.parameters.length) = some 2 := by decide +kernel
theorem nl17 : "LookAtClockModel" = "LookAtClockModel" ∧ "LookAtClockModel" ≠ "java/lang/invoke/MethodHandle" ∧ "LookAtClockModel" ≠ "java/lang/invoke/VarHandle" ∧ (parseMethodDescriptor "(II)I").map (fun d => d.parameters.length) = some 2 := by decide +kernel
theorem nl18 : "LookAtClock" = "LookAtClock" ∧ "LookAtClock" ≠ "java/lang/invoke/MethodHandle" ∧ "LookAtClock" ≠ "java/lang/invoke/VarHandle" ∧ (parseMethodDescriptor "(II)I").map (fun d => d.parameters.length) = some 2 := by decide +kernel
theorem nl19 : "LookAtClockModel" = "LookAtClockModel" ∧ "LookAtClockModel" ≠ "java/lang/invoke/MethodHandle" ∧ "LookAtClockModel" ≠ "java/lang/invoke/VarHandle" ∧ (parseMethodDescriptor "(II)I").map (fun d => d.parameters.length) = some 2 := by decide +kernel
theorem nl20 : "LookAtClock" = "LookAtClock" ∧ "LookAtClock" ≠ "java/lang/invoke/MethodHandle" ∧ "LookAtClock" ≠ "java/lang/invoke/VarHandle" ∧ (parseMethodDescriptor "(II)I").map (fun d => d.parameters.length) = some 2 := by decide +kernel
theorem nl21 : "LookAtClockModel" = "LookAtClockModel" ∧ "LookAtClockModel" ≠ "java/lang/invoke/MethodHandle" ∧ "LookAtClockModel" ≠ "java/lang/invoke/VarHandle" ∧ (parseMethodDescriptor "(II)I").map (fun d => d.parameters.length) = some 2 := by decide +kernel
theorem nl22 : "LookAtClock" = "LookAtClock" ∧ "LookAtClock" ≠ "java/lang/invoke/MethodHandle" ∧ "LookAtClock" ≠ "java/lang/invoke/VarHandle" ∧ (parseMethodDescriptor "(I)I").map (fun d => d.parameters.length) = some 1 := by decide +kernel
theorem nl23 : "LookAtClockModel" = "LookAtClockModel" ∧ "LookAtClockModel" ≠ "java/lang/invoke/MethodHandle" ∧ "LookAtClockModel" ≠ "java/lang/invoke/VarHandle" ∧ (parseMethodDescriptor "(I)I").map (fun d => d.parameters.length) = some 1 := by decide +kernel
theorem nl24 : "LookAtClock" = "LookAtClock" ∧ "LookAtClock" ≠ "java/lang/invoke/MethodHandle" ∧ "LookAtClock" ≠ "java/lang/invoke/VarHandle" ∧ (parseMethodDescriptor "(I)I").map (fun d => d.parameters.length) = some 1 := by decide +kernel
theorem nl25 : "LookAtClockModel" = "LookAtClockModel" ∧ "LookAtClockModel" ≠ "java/lang/invoke/MethodHandle" ∧ "LookAtClockModel" ≠ "java/lang/invoke/VarHandle" ∧ (parseMethodDescriptor "(I)I").map (fun d => d.parameters.length) = some 1 := by decide +kernel
theorem nl26 : "LookAtClock" = "LookAtClock" ∧ "LookAtClock" ≠ "java/lang/invoke/MethodHandle" ∧ "LookAtClock" ≠ "java/lang/invoke/VarHandle" ∧ (parseMethodDescriptor "(I)I").map (fun d => d.parameters.length) = some 1 := by decide +kernel
theorem nl27 : "LookAtClockModel" = "LookAtClockModel" ∧ "LookAtClockModel" ≠ "java/lang/invoke/MethodHandle" ∧ "LookAtClockModel" ≠ "java/lang/invoke/VarHandle" ∧ (parseMethodDescriptor "(I)I").map (fun d => d.parameters.length) = some 1 := by decide +kernel
theorem nl28 : "LookAtClock" = "LookAtClock" ∧ "LookAtClock" ≠ "java/lang/invoke/MethodHandle" ∧ "LookAtClock" ≠ "java/lang/invoke/VarHandle" ∧ (parseMethodDescriptor "(I)I").map (fun d => d.parameters.length) = some 1 := by decide +kernel
theorem nl29 : "LookAtClockModel" = "LookAtClockModel" ∧ "LookAtClockModel" ≠ "java/lang/invoke/MethodHandle" ∧ "LookAtClockModel" ≠ "java/lang/invoke/VarHandle" ∧ (parseMethodDescriptor "(I)I").map (fun d => d.parameters.length) = some 1 := by decide +kernel
theorem nl30 : "LookAtClock" = "LookAtClock" ∧ "LookAtClock" ≠ "java/lang/invoke/MethodHandle" ∧ "LookAtClock" ≠ "java/lang/invoke/VarHandle" ∧ (parseMethodDescriptor "(II)I").map (fun d => d.parameters.length) = some 2 := by decide +kernel
theorem nl31 : "LookAtClockModel" = "LookAtClockModel" ∧ "LookAtClockModel" ≠ "java/lang/invoke/MethodHandle" ∧ "LookAtClockModel" ≠ "java/lang/invoke/VarHandle" ∧ (parseMethodDescriptor "(II)I").map (fun d => d.parameters.length) = some 2 := by decide +kernel
theorem nl32 : "LookAtClock" = "LookAtClock" ∧ "LookAtClock" ≠ "java/lang/invoke/MethodHandle" ∧ "LookAtClock" ≠ "java/lang/invoke/VarHandle" ∧ (parseMethodDescriptor "(II)I").map (fun d => d.parameters.length) = some 2 := by decide +kernel
theorem nl33 : "LookAtClockModel" = "LookAtClockModel" ∧ "LookAtClockModel" ≠ "java/lang/invoke/MethodHandle" ∧ "LookAtClockModel" ≠ "java/lang/invoke/VarHandle" ∧ (parseMethodDescriptor "(II)I").map (fun d => d.parameters.length) = some 2 := by decide +kernel
theorem nl34 : "LookAtClock" = "LookAtClock" ∧ "LookAtClock" ≠ "java/lang/invoke/MethodHandle" ∧ "LookAtClock" ≠ "java/lang/invoke/VarHandle" ∧ (parseMethodDescriptor "(II)I").map (fun d => d.parameters.length) = some 2 := by decide +kernel
theorem nl35 : "LookAtClockModel" = "LookAtClockModel" ∧ "LookAtClockModel" ≠ "java/lang/invoke/MethodHandle" ∧ "LookAtClockModel" ≠ "java/lang/invoke/VarHandle" ∧ (parseMethodDescriptor "(II)I").map (fun d => d.parameters.length) = some 2 := by decide +kernel
theorem nl36 : "LookAtClock" = "LookAtClock" ∧ "LookAtClock" ≠ "java/lang/invoke/MethodHandle" ∧ "LookAtClock" ≠ "java/lang/invoke/VarHandle" ∧ (parseMethodDescriptor "(II)I").map (fun d => d.parameters.length) = some 2 := by decide +kernel
theorem nl37 : "LookAtClockModel" = "LookAtClockModel" ∧ "LookAtClockModel" ≠ "java/lang/invoke/MethodHandle" ∧ "LookAtClockModel" ≠ "java/lang/invoke/VarHandle" ∧ (parseMethodDescriptor "(II)I").map (fun d => d.parameters.length) = some 2 := by decide +kernel
theorem nl38 : "LookAtClock" = "LookAtClock" ∧ "LookAtClock" ≠ "java/lang/invoke/MethodHandle" ∧ "LookAtClock" ≠ "java/lang/invoke/VarHandle" ∧ (parseMethodDescriptor "(II)I").map (fun d => d.parameters.length) = some 2 := by decide +kernel
theorem nl39 : "LookAtClockModel" = "LookAtClockModel" ∧ "LookAtClockModel" ≠ "java/lang/invoke/MethodHandle" ∧ "LookAtClockModel" ≠ "java/lang/invoke/VarHandle" ∧ (parseMethodDescriptor "(II)I").map (fun d => d.parameters.length) = some 2 := by decide +kernel
theorem nl40 : "LookAtClock" = "LookAtClock" ∧ "LookAtClock" ≠ "java/lang/invoke/MethodHandle" ∧ "LookAtClock" ≠ "java/lang/invoke/VarHandle" ∧ (parseMethodDescriptor "(IIII)I").map (fun d => d.parameters.length) = some 4 := by decide +kernel
theorem nl41 : "LookAtClockModel" = "LookAtClockModel" ∧ "LookAtClockModel" ≠ "java/lang/invoke/MethodHandle" ∧ "LookAtClockModel" ≠ "java/lang/invoke/VarHandle" ∧ (parseMethodDescriptor "(IIII)I").map (fun d => d.parameters.length) = some 4 := by decide +kernel
theorem nl42 : "LookAtClock" = "LookAtClock" ∧ "LookAtClock" ≠ "java/lang/invoke/MethodHandle" ∧ "LookAtClock" ≠ "java/lang/invoke/VarHandle" ∧ (parseMethodDescriptor "(III)I").map (fun d => d.parameters.length) = some 3 := by decide +kernel
theorem nl43 : "LookAtClockModel" = "LookAtClockModel" ∧ "LookAtClockModel" ≠ "java/lang/invoke/MethodHandle" ∧ "LookAtClockModel" ≠ "java/lang/invoke/VarHandle" ∧ (parseMethodDescriptor "(III)I").map (fun d => d.parameters.length) = some 3 := by decide +kernel
theorem nl44 : "LookAtClock" = "LookAtClock" ∧ "LookAtClock" ≠ "java/lang/invoke/MethodHandle" ∧ "LookAtClock" ≠ "java/lang/invoke/VarHandle" ∧ (parseMethodDescriptor "(I)I").map (fun d => d.parameters.length) = some 1 := by decide +kernel
theorem nl45 : "LookAtClockModel" = "LookAtClockModel" ∧ "LookAtClockModel" ≠ "java/lang/invoke/MethodHandle" ∧ "LookAtClockModel" ≠ "java/lang/invoke/VarHandle" ∧ (parseMethodDescriptor "(I)I").map (fun d => d.parameters.length) = some 1 := by decide +kernel
theorem nl46 : "LookAtClock" = "LookAtClock" ∧ "LookAtClock" ≠ "java/lang/invoke/MethodHandle" ∧ "LookAtClock" ≠ "java/lang/invoke/VarHandle" ∧ (parseMethodDescriptor "()I").map (fun d => d.parameters.length) = some 0 := by decide +kernel
theorem nl47 : "LookAtClockModel" = "LookAtClockModel" ∧ "LookAtClockModel" ≠ "java/lang/invoke/MethodHandle" ∧ "LookAtClockModel" ≠ "java/lang/invoke/VarHandle" ∧ (parseMethodDescriptor "()I").map (fun d => d.parameters.length) = some 0 := by decide +kernel
theorem nl48 : "LookAtClock" = "LookAtClock" ∧ "LookAtClock" ≠ "java/lang/invoke/MethodHandle" ∧ "LookAtClock" ≠ "java/lang/invoke/VarHandle" ∧ (parseMethodDescriptor "(II)I").map (fun d => d.parameters.length) = some 2 := by decide +kernel
theorem nl49 : "LookAtClockModel" = "LookAtClockModel" ∧ "LookAtClockModel" ≠ "java/lang/invoke/MethodHandle" ∧ "LookAtClockModel" ≠ "java/lang/invoke/VarHandle" ∧ (parseMethodDescriptor "(II)I").map (fun d => d.parameters.length) = some 2 := by decide +kernel
theorem nl50 : "LookAtClock" = "LookAtClock" ∧ "LookAtClock" ≠ "java/lang/invoke/MethodHandle" ∧ "LookAtClock" ≠ "java/lang/invoke/VarHandle" ∧ (parseMethodDescriptor "()I").map (fun d => d.parameters.length) = some 0 := by decide +kernel
theorem nl51 : "LookAtClockModel" = "LookAtClockModel" ∧ "LookAtClockModel" ≠ "java/lang/invoke/MethodHandle" ∧ "LookAtClockModel" ≠ "java/lang/invoke/VarHandle" ∧ (parseMethodDescriptor "()I").map (fun d => d.parameters.length) = some 0 := by decide +kernel
theorem nl52 : "LookAtClock" = "LookAtClock" ∧ "LookAtClock" ≠ "java/lang/invoke/MethodHandle" ∧ "LookAtClock" ≠ "java/lang/invoke/VarHandle" ∧ (parseMethodDescriptor "()I").map (fun d => d.parameters.length) = some 0 := by decide +kernel
theorem nl53 : "LookAtClockModel" = "LookAtClockModel" ∧ "LookAtClockModel" ≠ "java/lang/invoke/MethodHandle" ∧ "LookAtClockModel" ≠ "java/lang/invoke/VarHandle" ∧ (parseMethodDescriptor "()I").map (fun d => d.parameters.length) = some 0 := by decide +kernel
theorem nl54 : "LookAtClock" = "LookAtClock" ∧ "LookAtClock" ≠ "java/lang/invoke/MethodHandle" ∧ "LookAtClock" ≠ "java/lang/invoke/VarHandle" ∧ (parseMethodDescriptor "(IIII)I").map (fun d => d.parameters.length) = some 4 := by decide +kernel
theorem nl55 : "LookAtClockModel" = "LookAtClockModel" ∧ "LookAtClockModel" ≠ "java/lang/invoke/MethodHandle" ∧ "LookAtClockModel" ≠ "java/lang/invoke/VarHandle" ∧ (parseMethodDescriptor "(IIII)I").map (fun d => d.parameters.length) = some 4 := by decide +kernel
theorem nl56 : "LookAtClock" = "LookAtClock" ∧ "LookAtClock" ≠ "java/lang/invoke/MethodHandle" ∧ "LookAtClock" ≠ "java/lang/invoke/VarHandle" ∧ (parseMethodDescriptor "(II)I").map (fun d => d.parameters.length) = some 2 := by decide +kernel
theorem nl57 : "LookAtClockModel" = "LookAtClockModel" ∧ "LookAtClockModel" ≠ "java/lang/invoke/MethodHandle" ∧ "LookAtClockModel" ≠ "java/lang/invoke/VarHandle" ∧ (parseMethodDescriptor "(II)I").map (fun d => d.parameters.length) = some 2 := by decide +kernel
theorem nl58 : "LookAtClock" = "LookAtClock" ∧ "LookAtClock" ≠ "java/lang/invoke/MethodHandle" ∧ "LookAtClock" ≠ "java/lang/invoke/VarHandle" ∧ (parseMethodDescriptor "()I").map (fun d => d.parameters.length) = some 0 := by decide +kernel
theorem nl59 : "LookAtClockModel" = "LookAtClockModel" ∧ "LookAtClockModel" ≠ "java/lang/invoke/MethodHandle" ∧ "LookAtClockModel" ≠ "java/lang/invoke/VarHandle" ∧ (parseMethodDescriptor "()I").map (fun d => d.parameters.length) = some 0 := by decide +kernel
theorem nl60 : "LookAtClock" = "LookAtClock" ∧ "LookAtClock" ≠ "java/lang/invoke/MethodHandle" ∧ "LookAtClock" ≠ "java/lang/invoke/VarHandle" ∧ (parseMethodDescriptor "()I").map (fun d => d.parameters.length) = some 0 := by decide +kernel
theorem nl61 : "LookAtClockModel" = "LookAtClockModel" ∧ "LookAtClockModel" ≠ "java/lang/invoke/MethodHandle" ∧ "LookAtClockModel" ≠ "java/lang/invoke/VarHandle" ∧ (parseMethodDescriptor "()I").map (fun d => d.parameters.length) = some 0 := by decide +kernel
theorem nl62 : "LookAtClock" = "LookAtClock" ∧ "LookAtClock" ≠ "java/lang/invoke/MethodHandle" ∧ "LookAtClock" ≠ "java/lang/invoke/VarHandle" ∧ (parseMethodDescriptor "(I)I").map (fun d => d.parameters.length) = some 1 := by decide +kernel
theorem nl63 : "LookAtClockModel" = "LookAtClockModel" ∧ "LookAtClockModel" ≠ "java/lang/invoke/MethodHandle" ∧ "LookAtClockModel" ≠ "java/lang/invoke/VarHandle" ∧ (parseMethodDescriptor "(I)I").map (fun d => d.parameters.length) = some 1 := by decide +kernel
theorem nl64 : "LookAtClock" = "LookAtClock" ∧ "LookAtClock" ≠ "java/lang/invoke/MethodHandle" ∧ "LookAtClock" ≠ "java/lang/invoke/VarHandle" ∧ (parseMethodDescriptor "(III)I").map (fun d => d.parameters.length) = some 3 := by decide +kernel
theorem nl65 : "LookAtClockModel" = "LookAtClockModel" ∧ "LookAtClockModel" ≠ "java/lang/invoke/MethodHandle" ∧ "LookAtClockModel" ≠ "java/lang/invoke/VarHandle" ∧ (parseMethodDescriptor "(III)I").map (fun d => d.parameters.length) = some 3 := by decide +kernel
theorem nl66 : "LookAtClock" = "LookAtClock" ∧ "LookAtClock" ≠ "java/lang/invoke/MethodHandle" ∧ "LookAtClock" ≠ "java/lang/invoke/VarHandle" ∧ (parseMethodDescriptor "(III)I").map (fun d => d.parameters.length) = some 3 := by decide +kernel
theorem nl67 : "LookAtClockModel" = "LookAtClockModel" ∧ "LookAtClockModel" ≠ "java/lang/invoke/MethodHandle" ∧ "LookAtClockModel" ≠ "java/lang/invoke/VarHandle" ∧ (parseMethodDescriptor "(III)I").map (fun d => d.parameters.length) = some 3 := by decide +kernel
theorem nl68 : "LookAtClock" = "LookAtClock" ∧ "LookAtClock" ≠ "java/lang/invoke/MethodHandle" ∧ "LookAtClock" ≠ "java/lang/invoke/VarHandle" ∧ (parseMethodDescriptor "(III)I").map (fun d => d.parameters.length) = some 3 := by decide +kernel
theorem nl69 : "LookAtClockModel" = "LookAtClockModel" ∧ "LookAtClockModel" ≠ "java/lang/invoke/MethodHandle" ∧ "LookAtClockModel" ≠ "java/lang/invoke/VarHandle" ∧ (parseMethodDescriptor "(III)I").map (fun d => d.parameters.length) = some 3 := by decide +kernel
theorem nl70 : "LookAtClockModel" = "LookAtClockModel" ∧ "LookAtClockModel" ≠ "java/lang/invoke/MethodHandle" ∧ "LookAtClockModel" ≠ "java/lang/invoke/VarHandle" ∧ (parseMethodDescriptor "(II)J").map (fun d => d.parameters.length) = some 2 := by decide +kernel
theorem nl71 : "LookAtClockModel" = "LookAtClockModel" ∧ "LookAtClockModel" ≠ "java/lang/invoke/MethodHandle" ∧ "LookAtClockModel" ≠ "java/lang/invoke/VarHandle" ∧ (parseMethodDescriptor "()I").map (fun d => d.parameters.length) = some 0 := by decide +kernel
theorem nl72 : "LookAtClock" = "LookAtClock" ∧ "LookAtClock" ≠ "java/lang/invoke/MethodHandle" ∧ "LookAtClock" ≠ "java/lang/invoke/VarHandle" ∧ (parseMethodDescriptor "(IIIII)I").map (fun d => d.parameters.length) = some 5 := by decide +kernel
theorem nl73 : "LookAtClockModel" = "LookAtClockModel" ∧ "LookAtClockModel" ≠ "java/lang/invoke/MethodHandle" ∧ "LookAtClockModel" ≠ "java/lang/invoke/VarHandle" ∧ (parseMethodDescriptor "(IIIII)I").map (fun d => d.parameters.length) = some 5 := by decide +kernel
theorem nl74 : "LookAtClock" = "LookAtClock" ∧ "LookAtClock" ≠ "java/lang/invoke/MethodHandle" ∧ "LookAtClock" ≠ "java/lang/invoke/VarHandle" ∧ (parseMethodDescriptor "(I)I").map (fun d => d.parameters.length) = some 1 := by decide +kernel
theorem nl75 : "LookAtClockModel" = "LookAtClockModel" ∧ "LookAtClockModel" ≠ "java/lang/invoke/MethodHandle" ∧ "LookAtClockModel" ≠ "java/lang/invoke/VarHandle" ∧ (parseMethodDescriptor "(I)I").map (fun d => d.parameters.length) = some 1 := by decide +kernel
theorem nl76 : "LookAtClockModel" = "LookAtClockModel" ∧ "LookAtClockModel" ≠ "java/lang/invoke/MethodHandle" ∧ "LookAtClockModel" ≠ "java/lang/invoke/VarHandle" ∧ (parseMethodDescriptor "(I)I").map (fun d => d.parameters.length) = some 1 := by decide +kernel
theorem tl0 {G : List Cond} (hs : ∀ w ∈ mjGLw, w ∈ G) : mjtb G mjM 76 1 yX11_init cX11_init 2 none := ⟨rfl, (hs _ wl4), by decide, by decide⟩
theorem tl1 {G : List Cond} (hs : ∀ w ∈ mjGLw, w ∈ G) : mjtb G mjM 131 1 yX12_init cX12_init 1 none := ⟨rfl, (hs _ wl10), by decide, by decide⟩
theorem tl2 {G : List Cond} (hs : ∀ w ∈ mjGLw, w ∈ G) : mjtb G mjM 87 2 yX11_town cX11_town 8 (some .int) := ⟨rfl, (hs _ wl13), by decide, by decide⟩
theorem tl3 {G : List Cond} (hs : ∀ w ∈ mjGLw, w ∈ G) : mjtb G mjM 187 2 yX12_town cX12_town 2 (some .int) := ⟨rfl, (hs _ wl17), by decide, by decide⟩
theorem tl4 {G : List Cond} (hs : ∀ w ∈ mjGLw, w ∈ G) : mjtb G mjM 88 2 yX11_price cX11_price 2 (some .int) := ⟨rfl, (hs _ wl21), by decide, by decide⟩
theorem tl5 {G : List Cond} (hs : ∀ w ∈ mjGLw, w ∈ G) : mjtb G mjM 140 2 yX12_price cX12_price 2 (some .int) := ⟨rfl, (hs _ wl25), by decide, by decide⟩
theorem tl6 {G : List Cond} (hs : ∀ w ∈ mjGLw, w ∈ G) : mjtb G mjM 89 2 yX11_law cX11_law 3 (some .int) := ⟨rfl, (hs _ wl29), by decide, by decide⟩
theorem tl7 {G : List Cond} (hs : ∀ w ∈ mjGLw, w ∈ G) : mjtb G mjM 141 2 yX12_law cX12_law 3 (some .int) := ⟨rfl, (hs _ wl33), by decide, by decide⟩
theorem tl8 {G : List Cond} (hs : ∀ w ∈ mjGLw, w ∈ G) : mjtb G mjM 90 3 yX11_work cX11_work 3 (some .int) := ⟨rfl, (hs _ wl37), by decide, by decide⟩
theorem tl9 {G : List Cond} (hs : ∀ w ∈ mjGLw, w ∈ G) : mjtb G mjM 142 3 yX12_work cX12_work 3 (some .int) := ⟨rfl, (hs _ wl41), by decide, by decide⟩
theorem tl10 {G : List Cond} (hs : ∀ w ∈ mjGLw, w ∈ G) : mjtb G mjM 92 3 yX11_looker cX11_looker 4 (some .int) := ⟨rfl, (hs _ wl45), by decide, by decide⟩
theorem tl11 {G : List Cond} (hs : ∀ w ∈ mjGLw, w ∈ G) : mjtb G mjM 144 3 yX12_looker cX12_looker 3 (some .int) := ⟨rfl, (hs _ wl49), by decide, by decide⟩
theorem tl12 {G : List Cond} (hs : ∀ w ∈ mjGLw, w ∈ G) : mjtb G mjM 93 2 yX11_drift cX11_drift 3 (some .int) := ⟨rfl, (hs _ wl53), by decide, by decide⟩
theorem tl13 {G : List Cond} (hs : ∀ w ∈ mjGLw, w ∈ G) : mjtb G mjM 145 2 yX12_drift cX12_drift 2 (some .int) := ⟨rfl, (hs _ wl57), by decide, by decide⟩
theorem tl14 {G : List Cond} (hs : ∀ w ∈ mjGLw, w ∈ G) : mjtb G mjM 94 4 yX11_thinks cX11_thinks 5 (some .int) := ⟨rfl, (hs _ wl61), by decide, by decide⟩
theorem tl15 {G : List Cond} (hs : ∀ w ∈ mjGLw, w ∈ G) : mjtb G mjM 147 4 yX12_thinks cX12_thinks 4 (some .int) := ⟨rfl, (hs _ wl65), by decide, by decide⟩
theorem tl16 {G : List Cond} (hs : ∀ w ∈ mjGLw, w ∈ G) : mjtb G mjM 95 3 yX11_day cX11_day 4 (some .int) := ⟨rfl, (hs _ wl69), by decide, by decide⟩
theorem tl17 {G : List Cond} (hs : ∀ w ∈ mjGLw, w ∈ G) : mjtb G mjM 154 3 yX12_day cX12_day 4 (some .int) := ⟨rfl, (hs _ wl73), by decide, by decide⟩
theorem tl18 {G : List Cond} (hs : ∀ w ∈ mjGLw, w ∈ G) : mjtb G mjM 96 3 yX11_look cX11_look 4 (some .int) := ⟨rfl, (hs _ wl77), by decide, by decide⟩
theorem tl19 {G : List Cond} (hs : ∀ w ∈ mjGLw, w ∈ G) : mjtb G mjM 155 3 yX12_look cX12_look 3 (some .int) := ⟨rfl, (hs _ wl81), by decide, by decide⟩
theorem tl20 {G : List Cond} (hs : ∀ w ∈ mjGLw, w ∈ G) : mjtb G mjM 97 3 yX11_comes cX11_comes 4 (some .int) := ⟨rfl, (hs _ wl85), by decide, by decide⟩
theorem tl21 {G : List Cond} (hs : ∀ w ∈ mjGLw, w ∈ G) : mjtb G mjM 156 3 yX12_comes cX12_comes 3 (some .int) := ⟨rfl, (hs _ wl89), by decide, by decide⟩
theorem tl22 {G : List Cond} (hs : ∀ w ∈ mjGLw, w ∈ G) : mjtb G mjM 98 2 yX11_bestFigure cX11_bestFigure 3 (some .int) := ⟨rfl, (hs _ wl93), by decide, by decide⟩
theorem tl23 {G : List Cond} (hs : ∀ w ∈ mjGLw, w ∈ G) : mjtb G mjM 157 2 yX12_bestFigure cX12_bestFigure 2 (some .int) := ⟨rfl, (hs _ wl97), by decide, by decide⟩
theorem tl24 {G : List Cond} (hs : ∀ w ∈ mjGLw, w ∈ G) : mjtb G mjM 99 2 yX11_always cX11_always 5 (some .int) := ⟨rfl, (hs _ wl101), by decide, by decide⟩
theorem tl25 {G : List Cond} (hs : ∀ w ∈ mjGLw, w ∈ G) : mjtb G mjM 158 2 yX12_always cX12_always 3 (some .int) := ⟨rfl, (hs _ wl105), by decide, by decide⟩
theorem tl26 {G : List Cond} (hs : ∀ w ∈ mjGLw, w ∈ G) : mjtb G mjM 100 2 yX11_pays cX11_pays 4 (some .int) := ⟨rfl, (hs _ wl109), by decide, by decide⟩
theorem tl27 {G : List Cond} (hs : ∀ w ∈ mjGLw, w ∈ G) : mjtb G mjM 159 2 yX12_pays_ cX12_pays_ 2 (some .int) := ⟨rfl, (hs _ wl113), by decide, by decide⟩
theorem tl28 {G : List Cond} (hs : ∀ w ∈ mjGLw, w ∈ G) : mjtb G mjM 101 2 yX11_bestKind cX11_bestKind 6 (some .int) := ⟨rfl, (hs _ wl117), by decide, by decide⟩
theorem tl29 {G : List Cond} (hs : ∀ w ∈ mjGLw, w ∈ G) : mjtb G mjM 160 2 yX12_bestKind cX12_bestKind 6 (some .int) := ⟨rfl, (hs _ wl121), by decide, by decide⟩
theorem tl30 {G : List Cond} (hs : ∀ w ∈ mjGLw, w ∈ G) : mjtb G mjM 102 3 yX11_edge cX11_edge 6 (some .int) := ⟨rfl, (hs _ wl125), by decide, by decide⟩
theorem tl31 {G : List Cond} (hs : ∀ w ∈ mjGLw, w ∈ G) : mjtb G mjM 161 3 yX12_edge cX12_edge 4 (some .int) := ⟨rfl, (hs _ wl129), by decide, by decide⟩
theorem tl32 {G : List Cond} (hs : ∀ w ∈ mjGLw, w ∈ G) : mjtb G mjM 103 3 yX11_waits cX11_waits 4 (some .int) := ⟨rfl, (hs _ wl133), by decide, by decide⟩
theorem tl33 {G : List Cond} (hs : ∀ w ∈ mjGLw, w ∈ G) : mjtb G mjM 162 3 yX12_waits cX12_waits 4 (some .int) := ⟨rfl, (hs _ wl137), by decide, by decide⟩
theorem tl34 {G : List Cond} (hs : ∀ w ∈ mjGLw, w ∈ G) : mjtb G mjM 106 3 yX11_learn cX11_learn 9 (some .int) := ⟨rfl, (hs _ wl141), by decide, by decide⟩
theorem tl35 {G : List Cond} (hs : ∀ w ∈ mjGLw, w ∈ G) : mjtb G mjM 163 3 yX12_learn cX12_learn 11 (some .int) := ⟨rfl, (hs _ wl145), by decide, by decide⟩
theorem tl36 {G : List Cond} (hs : ∀ w ∈ mjGLw, w ∈ G) : mjtb G mjM 107 3 yX11_shared cX11_shared 3 (some .int) := ⟨rfl, (hs _ wl149), by decide, by decide⟩
theorem tl37 {G : List Cond} (hs : ∀ w ∈ mjGLw, w ∈ G) : mjtb G mjM 165 3 yX12_shared cX12_shared 3 (some .int) := ⟨rfl, (hs _ wl153), by decide, by decide⟩
theorem tl38 {G : List Cond} (hs : ∀ w ∈ mjGLw, w ∈ G) : mjtb G mjM 108 3 yX11_nine cX11_nine 5 (some .int) := ⟨rfl, (hs _ wl157), by decide, by decide⟩
theorem tl39 {G : List Cond} (hs : ∀ w ∈ mjGLw, w ∈ G) : mjtb G mjM 166 3 yX12_nine cX12_nine 4 (some .int) := ⟨rfl, (hs _ wl161), by decide, by decide⟩
theorem tl40 {G : List Cond} (hs : ∀ w ∈ mjGLw, w ∈ G) : mjtb G mjM 110 5 yX11_buys cX11_buys 5 (some .int) := ⟨rfl, (hs _ wl165), by decide, by decide⟩
theorem tl41 {G : List Cond} (hs : ∀ w ∈ mjGLw, w ∈ G) : mjtb G mjM 168 5 yX12_buys cX12_buys 5 (some .int) := ⟨rfl, (hs _ wl169), by decide, by decide⟩
theorem tl42 {G : List Cond} (hs : ∀ w ∈ mjGLw, w ∈ G) : mjtb G mjM 111 4 yX11_rest cX11_rest 5 (some .int) := ⟨rfl, (hs _ wl173), by decide, by decide⟩
theorem tl43 {G : List Cond} (hs : ∀ w ∈ mjGLw, w ∈ G) : mjtb G mjM 169 4 yX12_rest cX12_rest 6 (some .int) := ⟨rfl, (hs _ wl177), by decide, by decide⟩
theorem tl44 {G : List Cond} (hs : ∀ w ∈ mjGLw, w ∈ G) : mjtb G mjM 113 2 yX11_cheaper cX11_cheaper 2 (some .int) := ⟨rfl, (hs _ wl181), by decide, by decide⟩
theorem tl45 {G : List Cond} (hs : ∀ w ∈ mjGLw, w ∈ G) : mjtb G mjM 171 2 yX12_cheaper cX12_cheaper 2 (some .int) := ⟨rfl, (hs _ wl185), by decide, by decide⟩
theorem tl46 {G : List Cond} (hs : ∀ w ∈ mjGLw, w ∈ G) : mjtb G mjM 114 1 yX11_otherCheaper cX11_otherCheaper 3 (some .int) := ⟨rfl, (hs _ wl189), by decide, by decide⟩
theorem tl47 {G : List Cond} (hs : ∀ w ∈ mjGLw, w ∈ G) : mjtb G mjM 172 1 yX12_otherCheaper cX12_otherCheaper 3 (some .int) := ⟨rfl, (hs _ wl193), by decide, by decide⟩
theorem tl48 {G : List Cond} (hs : ∀ w ∈ mjGLw, w ∈ G) : mjtb G mjM 115 3 yX11_byLaw cX11_byLaw 4 (some .int) := ⟨rfl, (hs _ wl197), by decide, by decide⟩
theorem tl49 {G : List Cond} (hs : ∀ w ∈ mjGLw, w ∈ G) : mjtb G mjM 173 3 yX12_byLaw cX12_byLaw 3 (some .int) := ⟨rfl, (hs _ wl201), by decide, by decide⟩
theorem tl50 {G : List Cond} (hs : ∀ w ∈ mjGLw, w ∈ G) : mjtb G mjM 117 1 yX11_sum cX11_sum 3 (some .int) := ⟨rfl, (hs _ wl205), by decide, by decide⟩
theorem tl51 {G : List Cond} (hs : ∀ w ∈ mjGLw, w ∈ G) : mjtb G mjM 174 1 yX12_sum cX12_sum 3 (some .int) := ⟨rfl, (hs _ wl209), by decide, by decide⟩
theorem tl52 {G : List Cond} (hs : ∀ w ∈ mjGLw, w ∈ G) : mjtb G mjM 119 1 yX11_order cX11_order 3 (some .int) := ⟨rfl, (hs _ wl213), by decide, by decide⟩
theorem tl53 {G : List Cond} (hs : ∀ w ∈ mjGLw, w ∈ G) : mjtb G mjM 175 1 yX12_order cX12_order 7 (some .int) := ⟨rfl, (hs _ wl217), by decide, by decide⟩
theorem tl54 {G : List Cond} (hs : ∀ w ∈ mjGLw, w ∈ G) : mjtb G mjM 120 5 yX11_seeded cX11_seeded 13 (some .int) := ⟨rfl, (hs _ wl221), by decide, by decide⟩
theorem tl55 {G : List Cond} (hs : ∀ w ∈ mjGLw, w ∈ G) : mjtb G mjM 176 5 yX12_seeded cX12_seeded 12 (some .int) := ⟨rfl, (hs _ wl225), by decide, by decide⟩
theorem tl56 {G : List Cond} (hs : ∀ w ∈ mjGLw, w ∈ G) : mjtb G mjM 121 3 yX11_judge cX11_judge 9 (some .int) := ⟨rfl, (hs _ wl229), by decide, by decide⟩
theorem tl57 {G : List Cond} (hs : ∀ w ∈ mjGLw, w ∈ G) : mjtb G mjM 177 3 yX12_judge cX12_judge 6 (some .int) := ⟨rfl, (hs _ wl233), by decide, by decide⟩
theorem tl58 {G : List Cond} (hs : ∀ w ∈ mjGLw, w ∈ G) : mjtb G mjM 122 1 yX11_image cX11_image 1 (some .int) := ⟨rfl, (hs _ wl237), by decide, by decide⟩
theorem tl59 {G : List Cond} (hs : ∀ w ∈ mjGLw, w ∈ G) : mjtb G mjM 135 1 yX12_image cX12_image 1 (some .int) := ⟨rfl, (hs _ wl241), by decide, by decide⟩
theorem tl60 {G : List Cond} (hs : ∀ w ∈ mjGLw, w ∈ G) : mjtb G mjM 123 1 yX11_restore cX11_restore 1 (some .int) := ⟨rfl, (hs _ wl245), by decide, by decide⟩
theorem tl61 {G : List Cond} (hs : ∀ w ∈ mjGLw, w ∈ G) : mjtb G mjM 136 1 yX12_restore cX12_restore 1 (some .int) := ⟨rfl, (hs _ wl249), by decide, by decide⟩
theorem tl62 {G : List Cond} (hs : ∀ w ∈ mjGLw, w ∈ G) : mjtb G mjM 124 2 yX11_count cX11_count 2 (some .int) := ⟨rfl, (hs _ wl253), by decide, by decide⟩
theorem tl63 {G : List Cond} (hs : ∀ w ∈ mjGLw, w ∈ G) : mjtb G mjM 178 2 yX12_count cX12_count 4 (some .int) := ⟨rfl, (hs _ wl257), by decide, by decide⟩
theorem tl64 {G : List Cond} (hs : ∀ w ∈ mjGLw, w ∈ G) : mjtb G mjM 125 4 yX11_keep cX11_keep 5 (some .int) := ⟨rfl, (hs _ wl261), by decide, by decide⟩
theorem tl65 {G : List Cond} (hs : ∀ w ∈ mjGLw, w ∈ G) : mjtb G mjM 188 4 yX12_keep cX12_keep 4 (some .int) := ⟨rfl, (hs _ wl265), by decide, by decide⟩
theorem tl66 {G : List Cond} (hs : ∀ w ∈ mjGLw, w ∈ G) : mjtb G mjM 126 4 yX11_row cX11_row 5 (some .int) := ⟨rfl, (hs _ wl269), by decide, by decide⟩
theorem tl67 {G : List Cond} (hs : ∀ w ∈ mjGLw, w ∈ G) : mjtb G mjM 189 4 yX12_row cX12_row 5 (some .int) := ⟨rfl, (hs _ wl273), by decide, by decide⟩
theorem tl68 {G : List Cond} (hs : ∀ w ∈ mjGLw, w ∈ G) : mjtb G mjM 127 4 yX11_put cX11_put 6 (some .int) := ⟨rfl, (hs _ wl277), by decide, by decide⟩
theorem tl69 {G : List Cond} (hs : ∀ w ∈ mjGLw, w ∈ G) : mjtb G mjM 190 4 yX12_put cX12_put 4 (some .int) := ⟨rfl, (hs _ wl281), by decide, by decide⟩
theorem tl70 {G : List Cond} (hs : ∀ w ∈ mjGLw, w ∈ G) : mjtb G mjM 192 3 yX12_element cX12_element 3 (some .long) := ⟨rfl, (hs _ wl285), by decide, by decide⟩
theorem tl71 {G : List Cond} (hs : ∀ w ∈ mjGLw, w ∈ G) : mjtb G mjM 191 1 yX12_thrown cX12_thrown 1 (some .int) := ⟨rfl, (hs _ wl289), by decide, by decide⟩
theorem tl72 {G : List Cond} (hs : ∀ w ∈ mjGLw, w ∈ G) : mjtb G mjM 128 6 yX11_copy cX11_copy 8 (some .int) := ⟨rfl, (hs _ wl293), by decide, by decide⟩
theorem tl73 {G : List Cond} (hs : ∀ w ∈ mjGLw, w ∈ G) : mjtb G mjM 193 6 yX12_copy cX12_copy 7 (some .int) := ⟨rfl, (hs _ wl297), by decide, by decide⟩
theorem tl74 {G : List Cond} (hs : ∀ w ∈ mjGLw, w ∈ G) : mjtb G mjM 130 2 yX11_skill cX11_skill 3 (some .int) := ⟨rfl, (hs _ wl301), by decide, by decide⟩
theorem tl75 {G : List Cond} (hs : ∀ w ∈ mjGLw, w ∈ G) : mjtb G mjM 195 2 yX12_skill cX12_skill 2 (some .int) := ⟨rfl, (hs _ wl305), by decide, by decide⟩
theorem tl76 {G : List Cond} (hs : ∀ w ∈ mjGLw, w ∈ G) : mjtb G mjM 196 2 yX12_toss cX12_toss 2 (some .int) := ⟨rfl, (hs _ wl309), by decide, by decide⟩
theorem vl0 {G : List Cond} (hs : ∀ w ∈ mjGLw, w ∈ G) : ∀ q ∈ ([(11, 87)] : List (Nat × Nat)), mjvV G mjM "LookAtClockLaw" 21 1 yX11_town q.1 q.2 ∨ mjvU G mjM "LookAtClockLaw" 21 1 yX11_town q.1 q.2 ∨ mjvO G mjM "LookAtClockLaw" 21 1 yX11_town q.1 q.2 := (List.forall_mem_cons.mpr ⟨Or.inl ⟨(RX11, TX11, 10), cX11_town, 8, (some .int), rfl, (tl2 hs), nl2, (hs _ wl14), (hs _ wl15), (hs _ wl16), (hs _ wl2)⟩, (fun _ h => nomatch h)⟩)
theorem vl1 {G : List Cond} (hs : ∀ w ∈ mjGLw, w ∈ G) : ∀ q ∈ ([(12, 187)] : List (Nat × Nat)), mjvV G mjM "LookAtClockLaw" 25 1 yX12_town q.1 q.2 ∨ mjvU G mjM "LookAtClockLaw" 25 1 yX12_town q.1 q.2 ∨ mjvO G mjM "LookAtClockLaw" 25 1 yX12_town q.1 q.2 := (List.forall_mem_cons.mpr ⟨Or.inl ⟨(RX12, TX12, 41), cX12_town, 2, (some .int), rfl, (tl3 hs), nl3, (hs _ wl18), (hs _ wl19), (hs _ wl20), (hs _ wl8)⟩, (fun _ h => nomatch h)⟩)
theorem vl2 {G : List Cond} (hs : ∀ w ∈ mjGLw, w ∈ G) : ∀ q ∈ ([(11, 88)] : List (Nat × Nat)), mjvV G mjM "LookAtClockLaw" 26 1 yX11_price q.1 q.2 ∨ mjvU G mjM "LookAtClockLaw" 26 1 yX11_price q.1 q.2 ∨ mjvO G mjM "LookAtClockLaw" 26 1 yX11_price q.1 q.2 := (List.forall_mem_cons.mpr ⟨Or.inl ⟨(RX11, TX11, 10), cX11_price, 2, (some .int), rfl, (tl4 hs), nl4, (hs _ wl22), (hs _ wl23), (hs _ wl24), (hs _ wl2)⟩, (fun _ h => nomatch h)⟩)
theorem vl3 {G : List Cond} (hs : ∀ w ∈ mjGLw, w ∈ G) : ∀ q ∈ ([(12, 140)] : List (Nat × Nat)), mjvV G mjM "LookAtClockLaw" 29 1 yX12_price q.1 q.2 ∨ mjvU G mjM "LookAtClockLaw" 29 1 yX12_price q.1 q.2 ∨ mjvO G mjM "LookAtClockLaw" 29 1 yX12_price q.1 q.2 := (List.forall_mem_cons.mpr ⟨Or.inl ⟨(RX12, TX12, 41), cX12_price, 2, (some .int), rfl, (tl5 hs), nl5, (hs _ wl26), (hs _ wl27), (hs _ wl28), (hs _ wl8)⟩, (fun _ h => nomatch h)⟩)
theorem vl4 {G : List Cond} (hs : ∀ w ∈ mjGLw, w ∈ G) : ∀ q ∈ ([(11, 89)] : List (Nat × Nat)), mjvV G mjM "LookAtClockLaw" 30 1 yX11_law q.1 q.2 ∨ mjvU G mjM "LookAtClockLaw" 30 1 yX11_law q.1 q.2 ∨ mjvO G mjM "LookAtClockLaw" 30 1 yX11_law q.1 q.2 := (List.forall_mem_cons.mpr ⟨Or.inl ⟨(RX11, TX11, 10), cX11_law, 3, (some .int), rfl, (tl6 hs), nl6, (hs _ wl30), (hs _ wl31), (hs _ wl32), (hs _ wl2)⟩, (fun _ h => nomatch h)⟩)
theorem vl5 {G : List Cond} (hs : ∀ w ∈ mjGLw, w ∈ G) : ∀ q ∈ ([(12, 141)] : List (Nat × Nat)), mjvV G mjM "LookAtClockLaw" 33 1 yX12_law q.1 q.2 ∨ mjvU G mjM "LookAtClockLaw" 33 1 yX12_law q.1 q.2 ∨ mjvO G mjM "LookAtClockLaw" 33 1 yX12_law q.1 q.2 := (List.forall_mem_cons.mpr ⟨Or.inl ⟨(RX12, TX12, 41), cX12_law, 3, (some .int), rfl, (tl7 hs), nl7, (hs _ wl34), (hs _ wl35), (hs _ wl36), (hs _ wl8)⟩, (fun _ h => nomatch h)⟩)
theorem vl6 {G : List Cond} (hs : ∀ w ∈ mjGLw, w ∈ G) : ∀ q ∈ ([(11, 90)] : List (Nat × Nat)), mjvV G mjM "LookAtClockLaw" 34 2 yX11_work q.1 q.2 ∨ mjvU G mjM "LookAtClockLaw" 34 2 yX11_work q.1 q.2 ∨ mjvO G mjM "LookAtClockLaw" 34 2 yX11_work q.1 q.2 := (List.forall_mem_cons.mpr ⟨Or.inl ⟨(RX11, TX11, 10), cX11_work, 3, (some .int), rfl, (tl8 hs), nl8, (hs _ wl38), (hs _ wl39), (hs _ wl40), (hs _ wl2)⟩, (fun _ h => nomatch h)⟩)
theorem vl7 {G : List Cond} (hs : ∀ w ∈ mjGLw, w ∈ G) : ∀ q ∈ ([(12, 142)] : List (Nat × Nat)), mjvV G mjM "LookAtClockLaw" 38 2 yX12_work q.1 q.2 ∨ mjvU G mjM "LookAtClockLaw" 38 2 yX12_work q.1 q.2 ∨ mjvO G mjM "LookAtClockLaw" 38 2 yX12_work q.1 q.2 := (List.forall_mem_cons.mpr ⟨Or.inl ⟨(RX12, TX12, 41), cX12_work, 3, (some .int), rfl, (tl9 hs), nl9, (hs _ wl42), (hs _ wl43), (hs _ wl44), (hs _ wl8)⟩, (fun _ h => nomatch h)⟩)
theorem vl8 {G : List Cond} (hs : ∀ w ∈ mjGLw, w ∈ G) : ∀ q ∈ ([(11, 92)] : List (Nat × Nat)), mjvV G mjM "LookAtClockLaw" 39 2 yX11_looker q.1 q.2 ∨ mjvU G mjM "LookAtClockLaw" 39 2 yX11_looker q.1 q.2 ∨ mjvO G mjM "LookAtClockLaw" 39 2 yX11_looker q.1 q.2 := (List.forall_mem_cons.mpr ⟨Or.inl ⟨(RX11, TX11, 10), cX11_looker, 4, (some .int), rfl, (tl10 hs), nl10, (hs _ wl46), (hs _ wl47), (hs _ wl48), (hs _ wl2)⟩, (fun _ h => nomatch h)⟩)
theorem vl9 {G : List Cond} (hs : ∀ w ∈ mjGLw, w ∈ G) : ∀ q ∈ ([(12, 144)] : List (Nat × Nat)), mjvV G mjM "LookAtClockLaw" 42 2 yX12_looker q.1 q.2 ∨ mjvU G mjM "LookAtClockLaw" 42 2 yX12_looker q.1 q.2 ∨ mjvO G mjM "LookAtClockLaw" 42 2 yX12_looker q.1 q.2 := (List.forall_mem_cons.mpr ⟨Or.inl ⟨(RX12, TX12, 41), cX12_looker, 3, (some .int), rfl, (tl11 hs), nl11, (hs _ wl50), (hs _ wl51), (hs _ wl52), (hs _ wl8)⟩, (fun _ h => nomatch h)⟩)
theorem vl10 {G : List Cond} (hs : ∀ w ∈ mjGLw, w ∈ G) : ∀ q ∈ ([(11, 93)] : List (Nat × Nat)), mjvV G mjM "LookAtClockLaw" 43 1 yX11_drift q.1 q.2 ∨ mjvU G mjM "LookAtClockLaw" 43 1 yX11_drift q.1 q.2 ∨ mjvO G mjM "LookAtClockLaw" 43 1 yX11_drift q.1 q.2 := (List.forall_mem_cons.mpr ⟨Or.inl ⟨(RX11, TX11, 10), cX11_drift, 3, (some .int), rfl, (tl12 hs), nl12, (hs _ wl54), (hs _ wl55), (hs _ wl56), (hs _ wl2)⟩, (fun _ h => nomatch h)⟩)
theorem vl11 {G : List Cond} (hs : ∀ w ∈ mjGLw, w ∈ G) : ∀ q ∈ ([(12, 145)] : List (Nat × Nat)), mjvV G mjM "LookAtClockLaw" 46 1 yX12_drift q.1 q.2 ∨ mjvU G mjM "LookAtClockLaw" 46 1 yX12_drift q.1 q.2 ∨ mjvO G mjM "LookAtClockLaw" 46 1 yX12_drift q.1 q.2 := (List.forall_mem_cons.mpr ⟨Or.inl ⟨(RX12, TX12, 41), cX12_drift, 2, (some .int), rfl, (tl13 hs), nl13, (hs _ wl58), (hs _ wl59), (hs _ wl60), (hs _ wl8)⟩, (fun _ h => nomatch h)⟩)
theorem vl12 {G : List Cond} (hs : ∀ w ∈ mjGLw, w ∈ G) : ∀ q ∈ ([(11, 94)] : List (Nat × Nat)), mjvV G mjM "LookAtClockLaw" 47 3 yX11_thinks q.1 q.2 ∨ mjvU G mjM "LookAtClockLaw" 47 3 yX11_thinks q.1 q.2 ∨ mjvO G mjM "LookAtClockLaw" 47 3 yX11_thinks q.1 q.2 := (List.forall_mem_cons.mpr ⟨Or.inl ⟨(RX11, TX11, 10), cX11_thinks, 5, (some .int), rfl, (tl14 hs), nl14, (hs _ wl62), (hs _ wl63), (hs _ wl64), (hs _ wl2)⟩, (fun _ h => nomatch h)⟩)
theorem vl13 {G : List Cond} (hs : ∀ w ∈ mjGLw, w ∈ G) : ∀ q ∈ ([(12, 147)] : List (Nat × Nat)), mjvV G mjM "LookAtClockLaw" 51 3 yX12_thinks q.1 q.2 ∨ mjvU G mjM "LookAtClockLaw" 51 3 yX12_thinks q.1 q.2 ∨ mjvO G mjM "LookAtClockLaw" 51 3 yX12_thinks q.1 q.2 := (List.forall_mem_cons.mpr ⟨Or.inl ⟨(RX12, TX12, 41), cX12_thinks, 4, (some .int), rfl, (tl15 hs), nl15, (hs _ wl66), (hs _ wl67), (hs _ wl68), (hs _ wl8)⟩, (fun _ h => nomatch h)⟩)
theorem vl14 {G : List Cond} (hs : ∀ w ∈ mjGLw, w ∈ G) : ∀ q ∈ ([(11, 95)] : List (Nat × Nat)), mjvV G mjM "LookAtClockLaw" 52 2 yX11_day q.1 q.2 ∨ mjvU G mjM "LookAtClockLaw" 52 2 yX11_day q.1 q.2 ∨ mjvO G mjM "LookAtClockLaw" 52 2 yX11_day q.1 q.2 := (List.forall_mem_cons.mpr ⟨Or.inl ⟨(RX11, TX11, 10), cX11_day, 4, (some .int), rfl, (tl16 hs), nl16, (hs _ wl70), (hs _ wl71), (hs _ wl72), (hs _ wl2)⟩, (fun _ h => nomatch h)⟩)
theorem vl15 {G : List Cond} (hs : ∀ w ∈ mjGLw, w ∈ G) : ∀ q ∈ ([(12, 154)] : List (Nat × Nat)), mjvV G mjM "LookAtClockLaw" 55 2 yX12_day q.1 q.2 ∨ mjvU G mjM "LookAtClockLaw" 55 2 yX12_day q.1 q.2 ∨ mjvO G mjM "LookAtClockLaw" 55 2 yX12_day q.1 q.2 := (List.forall_mem_cons.mpr ⟨Or.inl ⟨(RX12, TX12, 41), cX12_day, 4, (some .int), rfl, (tl17 hs), nl17, (hs _ wl74), (hs _ wl75), (hs _ wl76), (hs _ wl8)⟩, (fun _ h => nomatch h)⟩)
theorem vl16 {G : List Cond} (hs : ∀ w ∈ mjGLw, w ∈ G) : ∀ q ∈ ([(11, 96)] : List (Nat × Nat)), mjvV G mjM "LookAtClockLaw" 56 2 yX11_look q.1 q.2 ∨ mjvU G mjM "LookAtClockLaw" 56 2 yX11_look q.1 q.2 ∨ mjvO G mjM "LookAtClockLaw" 56 2 yX11_look q.1 q.2 := (List.forall_mem_cons.mpr ⟨Or.inl ⟨(RX11, TX11, 10), cX11_look, 4, (some .int), rfl, (tl18 hs), nl18, (hs _ wl78), (hs _ wl79), (hs _ wl80), (hs _ wl2)⟩, (fun _ h => nomatch h)⟩)
theorem vl17 {G : List Cond} (hs : ∀ w ∈ mjGLw, w ∈ G) : ∀ q ∈ ([(12, 155)] : List (Nat × Nat)), mjvV G mjM "LookAtClockLaw" 59 2 yX12_look q.1 q.2 ∨ mjvU G mjM "LookAtClockLaw" 59 2 yX12_look q.1 q.2 ∨ mjvO G mjM "LookAtClockLaw" 59 2 yX12_look q.1 q.2 := (List.forall_mem_cons.mpr ⟨Or.inl ⟨(RX12, TX12, 41), cX12_look, 3, (some .int), rfl, (tl19 hs), nl19, (hs _ wl82), (hs _ wl83), (hs _ wl84), (hs _ wl8)⟩, (fun _ h => nomatch h)⟩)
theorem vl18 {G : List Cond} (hs : ∀ w ∈ mjGLw, w ∈ G) : ∀ q ∈ ([(11, 97)] : List (Nat × Nat)), mjvV G mjM "LookAtClockLaw" 60 2 yX11_comes q.1 q.2 ∨ mjvU G mjM "LookAtClockLaw" 60 2 yX11_comes q.1 q.2 ∨ mjvO G mjM "LookAtClockLaw" 60 2 yX11_comes q.1 q.2 := (List.forall_mem_cons.mpr ⟨Or.inl ⟨(RX11, TX11, 10), cX11_comes, 4, (some .int), rfl, (tl20 hs), nl20, (hs _ wl86), (hs _ wl87), (hs _ wl88), (hs _ wl2)⟩, (fun _ h => nomatch h)⟩)
theorem vl19 {G : List Cond} (hs : ∀ w ∈ mjGLw, w ∈ G) : ∀ q ∈ ([(12, 156)] : List (Nat × Nat)), mjvV G mjM "LookAtClockLaw" 63 2 yX12_comes q.1 q.2 ∨ mjvU G mjM "LookAtClockLaw" 63 2 yX12_comes q.1 q.2 ∨ mjvO G mjM "LookAtClockLaw" 63 2 yX12_comes q.1 q.2 := (List.forall_mem_cons.mpr ⟨Or.inl ⟨(RX12, TX12, 41), cX12_comes, 3, (some .int), rfl, (tl21 hs), nl21, (hs _ wl90), (hs _ wl91), (hs _ wl92), (hs _ wl8)⟩, (fun _ h => nomatch h)⟩)
theorem vl20 {G : List Cond} (hs : ∀ w ∈ mjGLw, w ∈ G) : ∀ q ∈ ([(11, 98)] : List (Nat × Nat)), mjvV G mjM "LookAtClockLaw" 64 1 yX11_bestFigure q.1 q.2 ∨ mjvU G mjM "LookAtClockLaw" 64 1 yX11_bestFigure q.1 q.2 ∨ mjvO G mjM "LookAtClockLaw" 64 1 yX11_bestFigure q.1 q.2 := (List.forall_mem_cons.mpr ⟨Or.inl ⟨(RX11, TX11, 10), cX11_bestFigure, 3, (some .int), rfl, (tl22 hs), nl22, (hs _ wl94), (hs _ wl95), (hs _ wl96), (hs _ wl2)⟩, (fun _ h => nomatch h)⟩)
theorem vl21 {G : List Cond} (hs : ∀ w ∈ mjGLw, w ∈ G) : ∀ q ∈ ([(12, 157)] : List (Nat × Nat)), mjvV G mjM "LookAtClockLaw" 67 1 yX12_bestFigure q.1 q.2 ∨ mjvU G mjM "LookAtClockLaw" 67 1 yX12_bestFigure q.1 q.2 ∨ mjvO G mjM "LookAtClockLaw" 67 1 yX12_bestFigure q.1 q.2 := (List.forall_mem_cons.mpr ⟨Or.inl ⟨(RX12, TX12, 41), cX12_bestFigure, 2, (some .int), rfl, (tl23 hs), nl23, (hs _ wl98), (hs _ wl99), (hs _ wl100), (hs _ wl8)⟩, (fun _ h => nomatch h)⟩)
theorem vl22 {G : List Cond} (hs : ∀ w ∈ mjGLw, w ∈ G) : ∀ q ∈ ([(11, 99)] : List (Nat × Nat)), mjvV G mjM "LookAtClockLaw" 68 1 yX11_always q.1 q.2 ∨ mjvU G mjM "LookAtClockLaw" 68 1 yX11_always q.1 q.2 ∨ mjvO G mjM "LookAtClockLaw" 68 1 yX11_always q.1 q.2 := (List.forall_mem_cons.mpr ⟨Or.inl ⟨(RX11, TX11, 10), cX11_always, 5, (some .int), rfl, (tl24 hs), nl24, (hs _ wl102), (hs _ wl103), (hs _ wl104), (hs _ wl2)⟩, (fun _ h => nomatch h)⟩)
theorem vl23 {G : List Cond} (hs : ∀ w ∈ mjGLw, w ∈ G) : ∀ q ∈ ([(12, 158)] : List (Nat × Nat)), mjvV G mjM "LookAtClockLaw" 71 1 yX12_always q.1 q.2 ∨ mjvU G mjM "LookAtClockLaw" 71 1 yX12_always q.1 q.2 ∨ mjvO G mjM "LookAtClockLaw" 71 1 yX12_always q.1 q.2 := (List.forall_mem_cons.mpr ⟨Or.inl ⟨(RX12, TX12, 41), cX12_always, 3, (some .int), rfl, (tl25 hs), nl25, (hs _ wl106), (hs _ wl107), (hs _ wl108), (hs _ wl8)⟩, (fun _ h => nomatch h)⟩)
theorem vl24 {G : List Cond} (hs : ∀ w ∈ mjGLw, w ∈ G) : ∀ q ∈ ([(11, 100)] : List (Nat × Nat)), mjvV G mjM "LookAtClockLaw" 72 1 yX11_pays q.1 q.2 ∨ mjvU G mjM "LookAtClockLaw" 72 1 yX11_pays q.1 q.2 ∨ mjvO G mjM "LookAtClockLaw" 72 1 yX11_pays q.1 q.2 := (List.forall_mem_cons.mpr ⟨Or.inl ⟨(RX11, TX11, 10), cX11_pays, 4, (some .int), rfl, (tl26 hs), nl26, (hs _ wl110), (hs _ wl111), (hs _ wl112), (hs _ wl2)⟩, (fun _ h => nomatch h)⟩)
theorem vl25 {G : List Cond} (hs : ∀ w ∈ mjGLw, w ∈ G) : ∀ q ∈ ([(12, 159)] : List (Nat × Nat)), mjvV G mjM "LookAtClockLaw" 75 1 yX12_pays_ q.1 q.2 ∨ mjvU G mjM "LookAtClockLaw" 75 1 yX12_pays_ q.1 q.2 ∨ mjvO G mjM "LookAtClockLaw" 75 1 yX12_pays_ q.1 q.2 := (List.forall_mem_cons.mpr ⟨Or.inl ⟨(RX12, TX12, 41), cX12_pays_, 2, (some .int), rfl, (tl27 hs), nl27, (hs _ wl114), (hs _ wl115), (hs _ wl116), (hs _ wl8)⟩, (fun _ h => nomatch h)⟩)
theorem vl26 {G : List Cond} (hs : ∀ w ∈ mjGLw, w ∈ G) : ∀ q ∈ ([(11, 101)] : List (Nat × Nat)), mjvV G mjM "LookAtClockLaw" 76 1 yX11_bestKind q.1 q.2 ∨ mjvU G mjM "LookAtClockLaw" 76 1 yX11_bestKind q.1 q.2 ∨ mjvO G mjM "LookAtClockLaw" 76 1 yX11_bestKind q.1 q.2 := (List.forall_mem_cons.mpr ⟨Or.inl ⟨(RX11, TX11, 10), cX11_bestKind, 6, (some .int), rfl, (tl28 hs), nl28, (hs _ wl118), (hs _ wl119), (hs _ wl120), (hs _ wl2)⟩, (fun _ h => nomatch h)⟩)
theorem vl27 {G : List Cond} (hs : ∀ w ∈ mjGLw, w ∈ G) : ∀ q ∈ ([(12, 160)] : List (Nat × Nat)), mjvV G mjM "LookAtClockLaw" 79 1 yX12_bestKind q.1 q.2 ∨ mjvU G mjM "LookAtClockLaw" 79 1 yX12_bestKind q.1 q.2 ∨ mjvO G mjM "LookAtClockLaw" 79 1 yX12_bestKind q.1 q.2 := (List.forall_mem_cons.mpr ⟨Or.inl ⟨(RX12, TX12, 41), cX12_bestKind, 6, (some .int), rfl, (tl29 hs), nl29, (hs _ wl122), (hs _ wl123), (hs _ wl124), (hs _ wl8)⟩, (fun _ h => nomatch h)⟩)
theorem vl28 {G : List Cond} (hs : ∀ w ∈ mjGLw, w ∈ G) : ∀ q ∈ ([(11, 102)] : List (Nat × Nat)), mjvV G mjM "LookAtClockLaw" 80 2 yX11_edge q.1 q.2 ∨ mjvU G mjM "LookAtClockLaw" 80 2 yX11_edge q.1 q.2 ∨ mjvO G mjM "LookAtClockLaw" 80 2 yX11_edge q.1 q.2 := (List.forall_mem_cons.mpr ⟨Or.inl ⟨(RX11, TX11, 10), cX11_edge, 6, (some .int), rfl, (tl30 hs), nl30, (hs _ wl126), (hs _ wl127), (hs _ wl128), (hs _ wl2)⟩, (fun _ h => nomatch h)⟩)
theorem vl29 {G : List Cond} (hs : ∀ w ∈ mjGLw, w ∈ G) : ∀ q ∈ ([(12, 161)] : List (Nat × Nat)), mjvV G mjM "LookAtClockLaw" 83 2 yX12_edge q.1 q.2 ∨ mjvU G mjM "LookAtClockLaw" 83 2 yX12_edge q.1 q.2 ∨ mjvO G mjM "LookAtClockLaw" 83 2 yX12_edge q.1 q.2 := (List.forall_mem_cons.mpr ⟨Or.inl ⟨(RX12, TX12, 41), cX12_edge, 4, (some .int), rfl, (tl31 hs), nl31, (hs _ wl130), (hs _ wl131), (hs _ wl132), (hs _ wl8)⟩, (fun _ h => nomatch h)⟩)
theorem vl30 {G : List Cond} (hs : ∀ w ∈ mjGLw, w ∈ G) : ∀ q ∈ ([(11, 103)] : List (Nat × Nat)), mjvV G mjM "LookAtClockLaw" 84 2 yX11_waits q.1 q.2 ∨ mjvU G mjM "LookAtClockLaw" 84 2 yX11_waits q.1 q.2 ∨ mjvO G mjM "LookAtClockLaw" 84 2 yX11_waits q.1 q.2 := (List.forall_mem_cons.mpr ⟨Or.inl ⟨(RX11, TX11, 10), cX11_waits, 4, (some .int), rfl, (tl32 hs), nl32, (hs _ wl134), (hs _ wl135), (hs _ wl136), (hs _ wl2)⟩, (fun _ h => nomatch h)⟩)
theorem vl31 {G : List Cond} (hs : ∀ w ∈ mjGLw, w ∈ G) : ∀ q ∈ ([(12, 162)] : List (Nat × Nat)), mjvV G mjM "LookAtClockLaw" 87 2 yX12_waits q.1 q.2 ∨ mjvU G mjM "LookAtClockLaw" 87 2 yX12_waits q.1 q.2 ∨ mjvO G mjM "LookAtClockLaw" 87 2 yX12_waits q.1 q.2 := (List.forall_mem_cons.mpr ⟨Or.inl ⟨(RX12, TX12, 41), cX12_waits, 4, (some .int), rfl, (tl33 hs), nl33, (hs _ wl138), (hs _ wl139), (hs _ wl140), (hs _ wl8)⟩, (fun _ h => nomatch h)⟩)
theorem vl32 {G : List Cond} (hs : ∀ w ∈ mjGLw, w ∈ G) : ∀ q ∈ ([(11, 106)] : List (Nat × Nat)), mjvV G mjM "LookAtClockLaw" 88 2 yX11_learn q.1 q.2 ∨ mjvU G mjM "LookAtClockLaw" 88 2 yX11_learn q.1 q.2 ∨ mjvO G mjM "LookAtClockLaw" 88 2 yX11_learn q.1 q.2 := (List.forall_mem_cons.mpr ⟨Or.inl ⟨(RX11, TX11, 10), cX11_learn, 9, (some .int), rfl, (tl34 hs), nl34, (hs _ wl142), (hs _ wl143), (hs _ wl144), (hs _ wl2)⟩, (fun _ h => nomatch h)⟩)
theorem vl33 {G : List Cond} (hs : ∀ w ∈ mjGLw, w ∈ G) : ∀ q ∈ ([(12, 163)] : List (Nat × Nat)), mjvV G mjM "LookAtClockLaw" 91 2 yX12_learn q.1 q.2 ∨ mjvU G mjM "LookAtClockLaw" 91 2 yX12_learn q.1 q.2 ∨ mjvO G mjM "LookAtClockLaw" 91 2 yX12_learn q.1 q.2 := (List.forall_mem_cons.mpr ⟨Or.inl ⟨(RX12, TX12, 41), cX12_learn, 11, (some .int), rfl, (tl35 hs), nl35, (hs _ wl146), (hs _ wl147), (hs _ wl148), (hs _ wl8)⟩, (fun _ h => nomatch h)⟩)
theorem vl34 {G : List Cond} (hs : ∀ w ∈ mjGLw, w ∈ G) : ∀ q ∈ ([(11, 107)] : List (Nat × Nat)), mjvV G mjM "LookAtClockLaw" 92 2 yX11_shared q.1 q.2 ∨ mjvU G mjM "LookAtClockLaw" 92 2 yX11_shared q.1 q.2 ∨ mjvO G mjM "LookAtClockLaw" 92 2 yX11_shared q.1 q.2 := (List.forall_mem_cons.mpr ⟨Or.inl ⟨(RX11, TX11, 10), cX11_shared, 3, (some .int), rfl, (tl36 hs), nl36, (hs _ wl150), (hs _ wl151), (hs _ wl152), (hs _ wl2)⟩, (fun _ h => nomatch h)⟩)
theorem vl35 {G : List Cond} (hs : ∀ w ∈ mjGLw, w ∈ G) : ∀ q ∈ ([(12, 165)] : List (Nat × Nat)), mjvV G mjM "LookAtClockLaw" 95 2 yX12_shared q.1 q.2 ∨ mjvU G mjM "LookAtClockLaw" 95 2 yX12_shared q.1 q.2 ∨ mjvO G mjM "LookAtClockLaw" 95 2 yX12_shared q.1 q.2 := (List.forall_mem_cons.mpr ⟨Or.inl ⟨(RX12, TX12, 41), cX12_shared, 3, (some .int), rfl, (tl37 hs), nl37, (hs _ wl154), (hs _ wl155), (hs _ wl156), (hs _ wl8)⟩, (fun _ h => nomatch h)⟩)
theorem vl36 {G : List Cond} (hs : ∀ w ∈ mjGLw, w ∈ G) : ∀ q ∈ ([(11, 108)] : List (Nat × Nat)), mjvV G mjM "LookAtClockLaw" 96 2 yX11_nine q.1 q.2 ∨ mjvU G mjM "LookAtClockLaw" 96 2 yX11_nine q.1 q.2 ∨ mjvO G mjM "LookAtClockLaw" 96 2 yX11_nine q.1 q.2 := (List.forall_mem_cons.mpr ⟨Or.inl ⟨(RX11, TX11, 10), cX11_nine, 5, (some .int), rfl, (tl38 hs), nl38, (hs _ wl158), (hs _ wl159), (hs _ wl160), (hs _ wl2)⟩, (fun _ h => nomatch h)⟩)
theorem vl37 {G : List Cond} (hs : ∀ w ∈ mjGLw, w ∈ G) : ∀ q ∈ ([(12, 166)] : List (Nat × Nat)), mjvV G mjM "LookAtClockLaw" 99 2 yX12_nine q.1 q.2 ∨ mjvU G mjM "LookAtClockLaw" 99 2 yX12_nine q.1 q.2 ∨ mjvO G mjM "LookAtClockLaw" 99 2 yX12_nine q.1 q.2 := (List.forall_mem_cons.mpr ⟨Or.inl ⟨(RX12, TX12, 41), cX12_nine, 4, (some .int), rfl, (tl39 hs), nl39, (hs _ wl162), (hs _ wl163), (hs _ wl164), (hs _ wl8)⟩, (fun _ h => nomatch h)⟩)
theorem vl38 {G : List Cond} (hs : ∀ w ∈ mjGLw, w ∈ G) : ∀ q ∈ ([(11, 110)] : List (Nat × Nat)), mjvV G mjM "LookAtClockLaw" 100 4 yX11_buys q.1 q.2 ∨ mjvU G mjM "LookAtClockLaw" 100 4 yX11_buys q.1 q.2 ∨ mjvO G mjM "LookAtClockLaw" 100 4 yX11_buys q.1 q.2 := (List.forall_mem_cons.mpr ⟨Or.inl ⟨(RX11, TX11, 10), cX11_buys, 5, (some .int), rfl, (tl40 hs), nl40, (hs _ wl166), (hs _ wl167), (hs _ wl168), (hs _ wl2)⟩, (fun _ h => nomatch h)⟩)
theorem vl39 {G : List Cond} (hs : ∀ w ∈ mjGLw, w ∈ G) : ∀ q ∈ ([(12, 168)] : List (Nat × Nat)), mjvV G mjM "LookAtClockLaw" 104 4 yX12_buys q.1 q.2 ∨ mjvU G mjM "LookAtClockLaw" 104 4 yX12_buys q.1 q.2 ∨ mjvO G mjM "LookAtClockLaw" 104 4 yX12_buys q.1 q.2 := (List.forall_mem_cons.mpr ⟨Or.inl ⟨(RX12, TX12, 41), cX12_buys, 5, (some .int), rfl, (tl41 hs), nl41, (hs _ wl170), (hs _ wl171), (hs _ wl172), (hs _ wl8)⟩, (fun _ h => nomatch h)⟩)
theorem vl40 {G : List Cond} (hs : ∀ w ∈ mjGLw, w ∈ G) : ∀ q ∈ ([(11, 111)] : List (Nat × Nat)), mjvV G mjM "LookAtClockLaw" 105 3 yX11_rest q.1 q.2 ∨ mjvU G mjM "LookAtClockLaw" 105 3 yX11_rest q.1 q.2 ∨ mjvO G mjM "LookAtClockLaw" 105 3 yX11_rest q.1 q.2 := (List.forall_mem_cons.mpr ⟨Or.inl ⟨(RX11, TX11, 10), cX11_rest, 5, (some .int), rfl, (tl42 hs), nl42, (hs _ wl174), (hs _ wl175), (hs _ wl176), (hs _ wl2)⟩, (fun _ h => nomatch h)⟩)
theorem vl41 {G : List Cond} (hs : ∀ w ∈ mjGLw, w ∈ G) : ∀ q ∈ ([(12, 169)] : List (Nat × Nat)), mjvV G mjM "LookAtClockLaw" 108 3 yX12_rest q.1 q.2 ∨ mjvU G mjM "LookAtClockLaw" 108 3 yX12_rest q.1 q.2 ∨ mjvO G mjM "LookAtClockLaw" 108 3 yX12_rest q.1 q.2 := (List.forall_mem_cons.mpr ⟨Or.inl ⟨(RX12, TX12, 41), cX12_rest, 6, (some .int), rfl, (tl43 hs), nl43, (hs _ wl178), (hs _ wl179), (hs _ wl180), (hs _ wl8)⟩, (fun _ h => nomatch h)⟩)
theorem vl42 {G : List Cond} (hs : ∀ w ∈ mjGLw, w ∈ G) : ∀ q ∈ ([(11, 113)] : List (Nat × Nat)), mjvV G mjM "LookAtClockLaw" 109 1 yX11_cheaper q.1 q.2 ∨ mjvU G mjM "LookAtClockLaw" 109 1 yX11_cheaper q.1 q.2 ∨ mjvO G mjM "LookAtClockLaw" 109 1 yX11_cheaper q.1 q.2 := (List.forall_mem_cons.mpr ⟨Or.inl ⟨(RX11, TX11, 10), cX11_cheaper, 2, (some .int), rfl, (tl44 hs), nl44, (hs _ wl182), (hs _ wl183), (hs _ wl184), (hs _ wl2)⟩, (fun _ h => nomatch h)⟩)
theorem vl43 {G : List Cond} (hs : ∀ w ∈ mjGLw, w ∈ G) : ∀ q ∈ ([(12, 171)] : List (Nat × Nat)), mjvV G mjM "LookAtClockLaw" 112 1 yX12_cheaper q.1 q.2 ∨ mjvU G mjM "LookAtClockLaw" 112 1 yX12_cheaper q.1 q.2 ∨ mjvO G mjM "LookAtClockLaw" 112 1 yX12_cheaper q.1 q.2 := (List.forall_mem_cons.mpr ⟨Or.inl ⟨(RX12, TX12, 41), cX12_cheaper, 2, (some .int), rfl, (tl45 hs), nl45, (hs _ wl186), (hs _ wl187), (hs _ wl188), (hs _ wl8)⟩, (fun _ h => nomatch h)⟩)
theorem vl44 {G : List Cond} (hs : ∀ w ∈ mjGLw, w ∈ G) : ∀ q ∈ ([(11, 114)] : List (Nat × Nat)), mjvV G mjM "LookAtClockLaw" 113 0 yX11_otherCheaper q.1 q.2 ∨ mjvU G mjM "LookAtClockLaw" 113 0 yX11_otherCheaper q.1 q.2 ∨ mjvO G mjM "LookAtClockLaw" 113 0 yX11_otherCheaper q.1 q.2 := (List.forall_mem_cons.mpr ⟨Or.inl ⟨(RX11, TX11, 10), cX11_otherCheaper, 3, (some .int), rfl, (tl46 hs), nl46, (hs _ wl190), (hs _ wl191), (hs _ wl192), (hs _ wl2)⟩, (fun _ h => nomatch h)⟩)
theorem vl45 {G : List Cond} (hs : ∀ w ∈ mjGLw, w ∈ G) : ∀ q ∈ ([(12, 172)] : List (Nat × Nat)), mjvV G mjM "LookAtClockLaw" 117 0 yX12_otherCheaper q.1 q.2 ∨ mjvU G mjM "LookAtClockLaw" 117 0 yX12_otherCheaper q.1 q.2 ∨ mjvO G mjM "LookAtClockLaw" 117 0 yX12_otherCheaper q.1 q.2 := (List.forall_mem_cons.mpr ⟨Or.inl ⟨(RX12, TX12, 41), cX12_otherCheaper, 3, (some .int), rfl, (tl47 hs), nl47, (hs _ wl194), (hs _ wl195), (hs _ wl196), (hs _ wl8)⟩, (fun _ h => nomatch h)⟩)
theorem vl46 {G : List Cond} (hs : ∀ w ∈ mjGLw, w ∈ G) : ∀ q ∈ ([(11, 115)] : List (Nat × Nat)), mjvV G mjM "LookAtClockLaw" 118 2 yX11_byLaw q.1 q.2 ∨ mjvU G mjM "LookAtClockLaw" 118 2 yX11_byLaw q.1 q.2 ∨ mjvO G mjM "LookAtClockLaw" 118 2 yX11_byLaw q.1 q.2 := (List.forall_mem_cons.mpr ⟨Or.inl ⟨(RX11, TX11, 10), cX11_byLaw, 4, (some .int), rfl, (tl48 hs), nl48, (hs _ wl198), (hs _ wl199), (hs _ wl200), (hs _ wl2)⟩, (fun _ h => nomatch h)⟩)
theorem vl47 {G : List Cond} (hs : ∀ w ∈ mjGLw, w ∈ G) : ∀ q ∈ ([(12, 173)] : List (Nat × Nat)), mjvV G mjM "LookAtClockLaw" 121 2 yX12_byLaw q.1 q.2 ∨ mjvU G mjM "LookAtClockLaw" 121 2 yX12_byLaw q.1 q.2 ∨ mjvO G mjM "LookAtClockLaw" 121 2 yX12_byLaw q.1 q.2 := (List.forall_mem_cons.mpr ⟨Or.inl ⟨(RX12, TX12, 41), cX12_byLaw, 3, (some .int), rfl, (tl49 hs), nl49, (hs _ wl202), (hs _ wl203), (hs _ wl204), (hs _ wl8)⟩, (fun _ h => nomatch h)⟩)
theorem vl48 {G : List Cond} (hs : ∀ w ∈ mjGLw, w ∈ G) : ∀ q ∈ ([(11, 117)] : List (Nat × Nat)), mjvV G mjM "LookAtClockLaw" 122 0 yX11_sum q.1 q.2 ∨ mjvU G mjM "LookAtClockLaw" 122 0 yX11_sum q.1 q.2 ∨ mjvO G mjM "LookAtClockLaw" 122 0 yX11_sum q.1 q.2 := (List.forall_mem_cons.mpr ⟨Or.inl ⟨(RX11, TX11, 10), cX11_sum, 3, (some .int), rfl, (tl50 hs), nl50, (hs _ wl206), (hs _ wl207), (hs _ wl208), (hs _ wl2)⟩, (fun _ h => nomatch h)⟩)
theorem vl49 {G : List Cond} (hs : ∀ w ∈ mjGLw, w ∈ G) : ∀ q ∈ ([(12, 174)] : List (Nat × Nat)), mjvV G mjM "LookAtClockLaw" 125 0 yX12_sum q.1 q.2 ∨ mjvU G mjM "LookAtClockLaw" 125 0 yX12_sum q.1 q.2 ∨ mjvO G mjM "LookAtClockLaw" 125 0 yX12_sum q.1 q.2 := (List.forall_mem_cons.mpr ⟨Or.inl ⟨(RX12, TX12, 41), cX12_sum, 3, (some .int), rfl, (tl51 hs), nl51, (hs _ wl210), (hs _ wl211), (hs _ wl212), (hs _ wl8)⟩, (fun _ h => nomatch h)⟩)
theorem vl50 {G : List Cond} (hs : ∀ w ∈ mjGLw, w ∈ G) : ∀ q ∈ ([(11, 119)] : List (Nat × Nat)), mjvV G mjM "LookAtClockLaw" 126 0 yX11_order q.1 q.2 ∨ mjvU G mjM "LookAtClockLaw" 126 0 yX11_order q.1 q.2 ∨ mjvO G mjM "LookAtClockLaw" 126 0 yX11_order q.1 q.2 := (List.forall_mem_cons.mpr ⟨Or.inl ⟨(RX11, TX11, 10), cX11_order, 3, (some .int), rfl, (tl52 hs), nl52, (hs _ wl214), (hs _ wl215), (hs _ wl216), (hs _ wl2)⟩, (fun _ h => nomatch h)⟩)
theorem vl51 {G : List Cond} (hs : ∀ w ∈ mjGLw, w ∈ G) : ∀ q ∈ ([(12, 175)] : List (Nat × Nat)), mjvV G mjM "LookAtClockLaw" 129 0 yX12_order q.1 q.2 ∨ mjvU G mjM "LookAtClockLaw" 129 0 yX12_order q.1 q.2 ∨ mjvO G mjM "LookAtClockLaw" 129 0 yX12_order q.1 q.2 := (List.forall_mem_cons.mpr ⟨Or.inl ⟨(RX12, TX12, 41), cX12_order, 7, (some .int), rfl, (tl53 hs), nl53, (hs _ wl218), (hs _ wl219), (hs _ wl220), (hs _ wl8)⟩, (fun _ h => nomatch h)⟩)
theorem vl52 {G : List Cond} (hs : ∀ w ∈ mjGLw, w ∈ G) : ∀ q ∈ ([(11, 120)] : List (Nat × Nat)), mjvV G mjM "LookAtClockLaw" 130 4 yX11_seeded q.1 q.2 ∨ mjvU G mjM "LookAtClockLaw" 130 4 yX11_seeded q.1 q.2 ∨ mjvO G mjM "LookAtClockLaw" 130 4 yX11_seeded q.1 q.2 := (List.forall_mem_cons.mpr ⟨Or.inl ⟨(RX11, TX11, 10), cX11_seeded, 13, (some .int), rfl, (tl54 hs), nl54, (hs _ wl222), (hs _ wl223), (hs _ wl224), (hs _ wl2)⟩, (fun _ h => nomatch h)⟩)
theorem vl53 {G : List Cond} (hs : ∀ w ∈ mjGLw, w ∈ G) : ∀ q ∈ ([(12, 176)] : List (Nat × Nat)), mjvV G mjM "LookAtClockLaw" 133 4 yX12_seeded q.1 q.2 ∨ mjvU G mjM "LookAtClockLaw" 133 4 yX12_seeded q.1 q.2 ∨ mjvO G mjM "LookAtClockLaw" 133 4 yX12_seeded q.1 q.2 := (List.forall_mem_cons.mpr ⟨Or.inl ⟨(RX12, TX12, 41), cX12_seeded, 12, (some .int), rfl, (tl55 hs), nl55, (hs _ wl226), (hs _ wl227), (hs _ wl228), (hs _ wl8)⟩, (fun _ h => nomatch h)⟩)
theorem vl54 {G : List Cond} (hs : ∀ w ∈ mjGLw, w ∈ G) : ∀ q ∈ ([(11, 121)] : List (Nat × Nat)), mjvV G mjM "LookAtClockLaw" 134 2 yX11_judge q.1 q.2 ∨ mjvU G mjM "LookAtClockLaw" 134 2 yX11_judge q.1 q.2 ∨ mjvO G mjM "LookAtClockLaw" 134 2 yX11_judge q.1 q.2 := (List.forall_mem_cons.mpr ⟨Or.inl ⟨(RX11, TX11, 10), cX11_judge, 9, (some .int), rfl, (tl56 hs), nl56, (hs _ wl230), (hs _ wl231), (hs _ wl232), (hs _ wl2)⟩, (fun _ h => nomatch h)⟩)
theorem vl55 {G : List Cond} (hs : ∀ w ∈ mjGLw, w ∈ G) : ∀ q ∈ ([(12, 177)] : List (Nat × Nat)), mjvV G mjM "LookAtClockLaw" 137 2 yX12_judge q.1 q.2 ∨ mjvU G mjM "LookAtClockLaw" 137 2 yX12_judge q.1 q.2 ∨ mjvO G mjM "LookAtClockLaw" 137 2 yX12_judge q.1 q.2 := (List.forall_mem_cons.mpr ⟨Or.inl ⟨(RX12, TX12, 41), cX12_judge, 6, (some .int), rfl, (tl57 hs), nl57, (hs _ wl234), (hs _ wl235), (hs _ wl236), (hs _ wl8)⟩, (fun _ h => nomatch h)⟩)
theorem vl56 {G : List Cond} (hs : ∀ w ∈ mjGLw, w ∈ G) : ∀ q ∈ ([(11, 122)] : List (Nat × Nat)), mjvV G mjM "LookAtClockLaw" 138 0 yX11_image q.1 q.2 ∨ mjvU G mjM "LookAtClockLaw" 138 0 yX11_image q.1 q.2 ∨ mjvO G mjM "LookAtClockLaw" 138 0 yX11_image q.1 q.2 := (List.forall_mem_cons.mpr ⟨Or.inl ⟨(RX11, TX11, 10), cX11_image, 1, (some .int), rfl, (tl58 hs), nl58, (hs _ wl238), (hs _ wl239), (hs _ wl240), (hs _ wl2)⟩, (fun _ h => nomatch h)⟩)
theorem vl57 {G : List Cond} (hs : ∀ w ∈ mjGLw, w ∈ G) : ∀ q ∈ ([(12, 135)] : List (Nat × Nat)), mjvV G mjM "LookAtClockLaw" 141 0 yX12_image q.1 q.2 ∨ mjvU G mjM "LookAtClockLaw" 141 0 yX12_image q.1 q.2 ∨ mjvO G mjM "LookAtClockLaw" 141 0 yX12_image q.1 q.2 := (List.forall_mem_cons.mpr ⟨Or.inl ⟨(RX12, TX12, 41), cX12_image, 1, (some .int), rfl, (tl59 hs), nl59, (hs _ wl242), (hs _ wl243), (hs _ wl244), (hs _ wl8)⟩, (fun _ h => nomatch h)⟩)
theorem vl58 {G : List Cond} (hs : ∀ w ∈ mjGLw, w ∈ G) : ∀ q ∈ ([(11, 123)] : List (Nat × Nat)), mjvV G mjM "LookAtClockLaw" 142 0 yX11_restore q.1 q.2 ∨ mjvU G mjM "LookAtClockLaw" 142 0 yX11_restore q.1 q.2 ∨ mjvO G mjM "LookAtClockLaw" 142 0 yX11_restore q.1 q.2 := (List.forall_mem_cons.mpr ⟨Or.inl ⟨(RX11, TX11, 10), cX11_restore, 1, (some .int), rfl, (tl60 hs), nl60, (hs _ wl246), (hs _ wl247), (hs _ wl248), (hs _ wl2)⟩, (fun _ h => nomatch h)⟩)
theorem vl59 {G : List Cond} (hs : ∀ w ∈ mjGLw, w ∈ G) : ∀ q ∈ ([(12, 136)] : List (Nat × Nat)), mjvV G mjM "LookAtClockLaw" 145 0 yX12_restore q.1 q.2 ∨ mjvU G mjM "LookAtClockLaw" 145 0 yX12_restore q.1 q.2 ∨ mjvO G mjM "LookAtClockLaw" 145 0 yX12_restore q.1 q.2 := (List.forall_mem_cons.mpr ⟨Or.inl ⟨(RX12, TX12, 41), cX12_restore, 1, (some .int), rfl, (tl61 hs), nl61, (hs _ wl250), (hs _ wl251), (hs _ wl252), (hs _ wl8)⟩, (fun _ h => nomatch h)⟩)
theorem vl60 {G : List Cond} (hs : ∀ w ∈ mjGLw, w ∈ G) : ∀ q ∈ ([(11, 124)] : List (Nat × Nat)), mjvV G mjM "LookAtClockLaw" 146 1 yX11_count q.1 q.2 ∨ mjvU G mjM "LookAtClockLaw" 146 1 yX11_count q.1 q.2 ∨ mjvO G mjM "LookAtClockLaw" 146 1 yX11_count q.1 q.2 := (List.forall_mem_cons.mpr ⟨Or.inl ⟨(RX11, TX11, 10), cX11_count, 2, (some .int), rfl, (tl62 hs), nl62, (hs _ wl254), (hs _ wl255), (hs _ wl256), (hs _ wl2)⟩, (fun _ h => nomatch h)⟩)
theorem vl61 {G : List Cond} (hs : ∀ w ∈ mjGLw, w ∈ G) : ∀ q ∈ ([(12, 178)] : List (Nat × Nat)), mjvV G mjM "LookAtClockLaw" 149 1 yX12_count q.1 q.2 ∨ mjvU G mjM "LookAtClockLaw" 149 1 yX12_count q.1 q.2 ∨ mjvO G mjM "LookAtClockLaw" 149 1 yX12_count q.1 q.2 := (List.forall_mem_cons.mpr ⟨Or.inl ⟨(RX12, TX12, 41), cX12_count, 4, (some .int), rfl, (tl63 hs), nl63, (hs _ wl258), (hs _ wl259), (hs _ wl260), (hs _ wl8)⟩, (fun _ h => nomatch h)⟩)
theorem vl62 {G : List Cond} (hs : ∀ w ∈ mjGLw, w ∈ G) : ∀ q ∈ ([(11, 125)] : List (Nat × Nat)), mjvV G mjM "LookAtClockLaw" 150 3 yX11_keep q.1 q.2 ∨ mjvU G mjM "LookAtClockLaw" 150 3 yX11_keep q.1 q.2 ∨ mjvO G mjM "LookAtClockLaw" 150 3 yX11_keep q.1 q.2 := (List.forall_mem_cons.mpr ⟨Or.inl ⟨(RX11, TX11, 10), cX11_keep, 5, (some .int), rfl, (tl64 hs), nl64, (hs _ wl262), (hs _ wl263), (hs _ wl264), (hs _ wl2)⟩, (fun _ h => nomatch h)⟩)
theorem vl63 {G : List Cond} (hs : ∀ w ∈ mjGLw, w ∈ G) : ∀ q ∈ ([(12, 188)] : List (Nat × Nat)), mjvV G mjM "LookAtClockLaw" 153 3 yX12_keep q.1 q.2 ∨ mjvU G mjM "LookAtClockLaw" 153 3 yX12_keep q.1 q.2 ∨ mjvO G mjM "LookAtClockLaw" 153 3 yX12_keep q.1 q.2 := (List.forall_mem_cons.mpr ⟨Or.inl ⟨(RX12, TX12, 41), cX12_keep, 4, (some .int), rfl, (tl65 hs), nl65, (hs _ wl266), (hs _ wl267), (hs _ wl268), (hs _ wl8)⟩, (fun _ h => nomatch h)⟩)
theorem vl64 {G : List Cond} (hs : ∀ w ∈ mjGLw, w ∈ G) : ∀ q ∈ ([(11, 126)] : List (Nat × Nat)), mjvV G mjM "LookAtClockLaw" 154 3 yX11_row q.1 q.2 ∨ mjvU G mjM "LookAtClockLaw" 154 3 yX11_row q.1 q.2 ∨ mjvO G mjM "LookAtClockLaw" 154 3 yX11_row q.1 q.2 := (List.forall_mem_cons.mpr ⟨Or.inl ⟨(RX11, TX11, 10), cX11_row, 5, (some .int), rfl, (tl66 hs), nl66, (hs _ wl270), (hs _ wl271), (hs _ wl272), (hs _ wl2)⟩, (fun _ h => nomatch h)⟩)
theorem vl65 {G : List Cond} (hs : ∀ w ∈ mjGLw, w ∈ G) : ∀ q ∈ ([(12, 189)] : List (Nat × Nat)), mjvV G mjM "LookAtClockLaw" 157 3 yX12_row q.1 q.2 ∨ mjvU G mjM "LookAtClockLaw" 157 3 yX12_row q.1 q.2 ∨ mjvO G mjM "LookAtClockLaw" 157 3 yX12_row q.1 q.2 := (List.forall_mem_cons.mpr ⟨Or.inl ⟨(RX12, TX12, 41), cX12_row, 5, (some .int), rfl, (tl67 hs), nl67, (hs _ wl274), (hs _ wl275), (hs _ wl276), (hs _ wl8)⟩, (fun _ h => nomatch h)⟩)
theorem vl66 {G : List Cond} (hs : ∀ w ∈ mjGLw, w ∈ G) : ∀ q ∈ ([(11, 127)] : List (Nat × Nat)), mjvV G mjM "LookAtClockLaw" 158 3 yX11_put q.1 q.2 ∨ mjvU G mjM "LookAtClockLaw" 158 3 yX11_put q.1 q.2 ∨ mjvO G mjM "LookAtClockLaw" 158 3 yX11_put q.1 q.2 := (List.forall_mem_cons.mpr ⟨Or.inl ⟨(RX11, TX11, 10), cX11_put, 6, (some .int), rfl, (tl68 hs), nl68, (hs _ wl278), (hs _ wl279), (hs _ wl280), (hs _ wl2)⟩, (fun _ h => nomatch h)⟩)
theorem vl67 {G : List Cond} (hs : ∀ w ∈ mjGLw, w ∈ G) : ∀ q ∈ ([(12, 190)] : List (Nat × Nat)), mjvV G mjM "LookAtClockLaw" 161 3 yX12_put q.1 q.2 ∨ mjvU G mjM "LookAtClockLaw" 161 3 yX12_put q.1 q.2 ∨ mjvO G mjM "LookAtClockLaw" 161 3 yX12_put q.1 q.2 := (List.forall_mem_cons.mpr ⟨Or.inl ⟨(RX12, TX12, 41), cX12_put, 4, (some .int), rfl, (tl69 hs), nl69, (hs _ wl282), (hs _ wl283), (hs _ wl284), (hs _ wl8)⟩, (fun _ h => nomatch h)⟩)
theorem vl68 {G : List Cond} (hs : ∀ w ∈ mjGLw, w ∈ G) : ∀ q ∈ ([(12, 192)] : List (Nat × Nat)), mjvV G mjM "LookAtClockLaw" 167 2 yX12_element q.1 q.2 ∨ mjvU G mjM "LookAtClockLaw" 167 2 yX12_element q.1 q.2 ∨ mjvO G mjM "LookAtClockLaw" 167 2 yX12_element q.1 q.2 := (List.forall_mem_cons.mpr ⟨Or.inl ⟨(RX12, TX12, 41), cX12_element, 3, (some .long), rfl, (tl70 hs), nl70, (hs _ wl286), (hs _ wl287), (hs _ wl288), (hs _ wl8)⟩, (fun _ h => nomatch h)⟩)
theorem vl69 {G : List Cond} (hs : ∀ w ∈ mjGLw, w ∈ G) : ∀ q ∈ ([(12, 191)] : List (Nat × Nat)), mjvV G mjM "LookAtClockLaw" 168 0 yX12_thrown q.1 q.2 ∨ mjvU G mjM "LookAtClockLaw" 168 0 yX12_thrown q.1 q.2 ∨ mjvO G mjM "LookAtClockLaw" 168 0 yX12_thrown q.1 q.2 := (List.forall_mem_cons.mpr ⟨Or.inl ⟨(RX12, TX12, 41), cX12_thrown, 1, (some .int), rfl, (tl71 hs), nl71, (hs _ wl290), (hs _ wl291), (hs _ wl292), (hs _ wl8)⟩, (fun _ h => nomatch h)⟩)
theorem vl70 {G : List Cond} (hs : ∀ w ∈ mjGLw, w ∈ G) : ∀ q ∈ ([(11, 128)] : List (Nat × Nat)), mjvV G mjM "LookAtClockLaw" 171 5 yX11_copy q.1 q.2 ∨ mjvU G mjM "LookAtClockLaw" 171 5 yX11_copy q.1 q.2 ∨ mjvO G mjM "LookAtClockLaw" 171 5 yX11_copy q.1 q.2 := (List.forall_mem_cons.mpr ⟨Or.inl ⟨(RX11, TX11, 10), cX11_copy, 8, (some .int), rfl, (tl72 hs), nl72, (hs _ wl294), (hs _ wl295), (hs _ wl296), (hs _ wl2)⟩, (fun _ h => nomatch h)⟩)
theorem vl71 {G : List Cond} (hs : ∀ w ∈ mjGLw, w ∈ G) : ∀ q ∈ ([(12, 193)] : List (Nat × Nat)), mjvV G mjM "LookAtClockLaw" 175 5 yX12_copy q.1 q.2 ∨ mjvU G mjM "LookAtClockLaw" 175 5 yX12_copy q.1 q.2 ∨ mjvO G mjM "LookAtClockLaw" 175 5 yX12_copy q.1 q.2 := (List.forall_mem_cons.mpr ⟨Or.inl ⟨(RX12, TX12, 41), cX12_copy, 7, (some .int), rfl, (tl73 hs), nl73, (hs _ wl298), (hs _ wl299), (hs _ wl300), (hs _ wl8)⟩, (fun _ h => nomatch h)⟩)
theorem vl72 {G : List Cond} (hs : ∀ w ∈ mjGLw, w ∈ G) : ∀ q ∈ ([(11, 130)] : List (Nat × Nat)), mjvV G mjM "LookAtClockLaw" 176 1 yX11_skill q.1 q.2 ∨ mjvU G mjM "LookAtClockLaw" 176 1 yX11_skill q.1 q.2 ∨ mjvO G mjM "LookAtClockLaw" 176 1 yX11_skill q.1 q.2 := (List.forall_mem_cons.mpr ⟨Or.inl ⟨(RX11, TX11, 10), cX11_skill, 3, (some .int), rfl, (tl74 hs), nl74, (hs _ wl302), (hs _ wl303), (hs _ wl304), (hs _ wl2)⟩, (fun _ h => nomatch h)⟩)
theorem vl73 {G : List Cond} (hs : ∀ w ∈ mjGLw, w ∈ G) : ∀ q ∈ ([(12, 195)] : List (Nat × Nat)), mjvV G mjM "LookAtClockLaw" 179 1 yX12_skill q.1 q.2 ∨ mjvU G mjM "LookAtClockLaw" 179 1 yX12_skill q.1 q.2 ∨ mjvO G mjM "LookAtClockLaw" 179 1 yX12_skill q.1 q.2 := (List.forall_mem_cons.mpr ⟨Or.inl ⟨(RX12, TX12, 41), cX12_skill, 2, (some .int), rfl, (tl75 hs), nl75, (hs _ wl306), (hs _ wl307), (hs _ wl308), (hs _ wl8)⟩, (fun _ h => nomatch h)⟩)
theorem vl74 {G : List Cond} (hs : ∀ w ∈ mjGLw, w ∈ G) : ∀ q ∈ ([(12, 196)] : List (Nat × Nat)), mjvV G mjM "LookAtClockLaw" 183 1 yX12_toss q.1 q.2 ∨ mjvU G mjM "LookAtClockLaw" 183 1 yX12_toss q.1 q.2 ∨ mjvO G mjM "LookAtClockLaw" 183 1 yX12_toss q.1 q.2 := (List.forall_mem_cons.mpr ⟨Or.inl ⟨(RX12, TX12, 41), cX12_toss, 2, (some .int), rfl, (tl76 hs), nl76, (hs _ wl310), (hs _ wl311), (hs _ wl312), (hs _ wl8)⟩, (fun _ h => nomatch h)⟩)
