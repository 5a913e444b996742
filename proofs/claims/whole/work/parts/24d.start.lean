/-! what the law begins its loop with -/
def csQ (h g : MH) : Prop := h.2.1 = g.2.1 ∧ h.2.2.2.2 = g.2.2.2.2
def csZ (h : MH) : Prop := ∀ a, a ≠ 2000000 → h.1 a = fun _ => 0
theorem csQ.new {h g : MH} {t n s : Nat} (q : csQ h g) : csQ (mjNew h t n s) (mjNew g t n s) := by
  obtain ⟨q1, q2⟩ := q
  refine ⟨?_, ?_⟩
  · show mjR h.2.1 h.2.2.2.2.1 (fun _ => none) = mjR g.2.1 g.2.2.2.2.1 (fun _ => none)
    rw [q1, q2]
  · show (h.2.2.2.2.1 + 1, h.2.2.2.2.2.1 + 1, h.2.2.2.2.2.2 + s) = (g.2.2.2.2.1 + 1, g.2.2.2.2.2.1 + 1, g.2.2.2.2.2.2 + s)
    rw [q2]
theorem csQ.sP {h g : MH} {a j : Nat} {v : Option Nat} (q : csQ h g) : csQ (mjsP h a j v) (mjsP g a j v) := by
  obtain ⟨q1, q2⟩ := q
  refine ⟨?_, q2⟩
  show mjU h.2.1 a j v = mjU g.2.1 a j v
  rw [q1]
theorem csQ.sI {h g : MH} {a j : Nat} {v : Int32} (q : csQ h g) : csQ (mjsI h a j v) (mjsI g a j v) := q
theorem csZ.new {h : MH} {t n s : Nat} (q : csZ h) : csZ (mjNew h t n s) := fun a ha => by
  show mjR h.1 h.2.2.2.2.1 (fun _ => 0) a = _
  funext b
  unfold mjR
  by_cases e : a = h.2.2.2.2.1
  · rw [if_pos e]
  · rw [if_neg e, q a ha]
theorem csZ.sP {h : MH} {a j : Nat} {v : Option Nat} (q : csZ h) : csZ (mjsP h a j v) := q
theorem csZ.sI {h : MH} {a j : Nat} (q : csZ h) : csZ (mjsI h a j 0) := fun b hb => by
  show mjU h.1 a j 0 b = _
  funext c
  unfold mjU
  by_cases e : b = a
  · rw [if_pos e]
    by_cases e2 : c = j
    · rw [if_pos e2]
    · rw [if_neg e2, q b hb]
  · rw [if_neg e, q b hb]
theorem cq0 {xs : Nat → Int32} {L : Nat} : csQ (cs0 xs L) (cs0 (fun _ => 0) 0) := ⟨rfl, rfl⟩
theorem cz0 {xs : Nat → Int32} {L : Nat} : csZ (cs0 xs L) := fun a ha => if_neg ha
theorem cq1 {xs : Nat → Int32} {L : Nat} : csQ (cs1 xs L) (cs1 (fun _ => 0) 0) := cq0.new
theorem cz1 {xs : Nat → Int32} {L : Nat} : csZ (cs1 xs L) := cz0.new
theorem cq2 {xs : Nat → Int32} {L : Nat} : csQ (cs2 xs L) (cs2 (fun _ => 0) 0) := cq1.new
theorem cz2 {xs : Nat → Int32} {L : Nat} : csZ (cs2 xs L) := cz1.new
theorem cq3 {xs : Nat → Int32} {L : Nat} : csQ (cs3 xs L) (cs3 (fun _ => 0) 0) := cq2.new
theorem cz3 {xs : Nat → Int32} {L : Nat} : csZ (cs3 xs L) := cz2.new
theorem cq4 {xs : Nat → Int32} {L : Nat} : csQ (cs4 xs L) (cs4 (fun _ => 0) 0) := cq3.sP
theorem cz4 {xs : Nat → Int32} {L : Nat} : csZ (cs4 xs L) := cz3.sP
theorem cq5 {xs : Nat → Int32} {L : Nat} : csQ (cs5 xs L) (cs5 (fun _ => 0) 0) := cq4.new
theorem cz5 {xs : Nat → Int32} {L : Nat} : csZ (cs5 xs L) := cz4.new
theorem cq6 {xs : Nat → Int32} {L : Nat} : csQ (cs6 xs L) (cs6 (fun _ => 0) 0) := cq5.sP
theorem cz6 {xs : Nat → Int32} {L : Nat} : csZ (cs6 xs L) := cz5.sP
theorem cq7 {xs : Nat → Int32} {L : Nat} : csQ (cs7 xs L) (cs7 (fun _ => 0) 0) := cq6.new
theorem cz7 {xs : Nat → Int32} {L : Nat} : csZ (cs7 xs L) := cz6.new
theorem cq8 {xs : Nat → Int32} {L : Nat} : csQ (cs8 xs L) (cs8 (fun _ => 0) 0) := cq7.sP
theorem cz8 {xs : Nat → Int32} {L : Nat} : csZ (cs8 xs L) := cz7.sP
theorem cq9 {xs : Nat → Int32} {L : Nat} : csQ (cs9 xs L) (cs9 (fun _ => 0) 0) := cq8.new
theorem cz9 {xs : Nat → Int32} {L : Nat} : csZ (cs9 xs L) := cz8.new
theorem cq10 {xs : Nat → Int32} {L : Nat} : csQ (cs10 xs L) (cs10 (fun _ => 0) 0) := cq9.sP
theorem cz10 {xs : Nat → Int32} {L : Nat} : csZ (cs10 xs L) := cz9.sP
theorem cq11 {xs : Nat → Int32} {L : Nat} : csQ (cs11 xs L) (cs11 (fun _ => 0) 0) := cq10.new
theorem cz11 {xs : Nat → Int32} {L : Nat} : csZ (cs11 xs L) := cz10.new
theorem cq12 {xs : Nat → Int32} {L : Nat} : csQ (cs12 xs L) (cs12 (fun _ => 0) 0) := cq11.sP
theorem cz12 {xs : Nat → Int32} {L : Nat} : csZ (cs12 xs L) := cz11.sP
theorem cq13 {xs : Nat → Int32} {L : Nat} : csQ (cs13 xs L) (cs13 (fun _ => 0) 0) := cq12.sP
theorem cz13 {xs : Nat → Int32} {L : Nat} : csZ (cs13 xs L) := cz12.sP
theorem cq14 {xs : Nat → Int32} {L : Nat} : csQ (cs14 xs L) (cs14 (fun _ => 0) 0) := cq13.new
theorem cz14 {xs : Nat → Int32} {L : Nat} : csZ (cs14 xs L) := cz13.new
theorem cq15 {xs : Nat → Int32} {L : Nat} : csQ (cs15 xs L) (cs15 (fun _ => 0) 0) := cq14.new
theorem cz15 {xs : Nat → Int32} {L : Nat} : csZ (cs15 xs L) := cz14.new
theorem cq16 {xs : Nat → Int32} {L : Nat} : csQ (cs16 xs L) (cs16 (fun _ => 0) 0) := cq15.sP
theorem cz16 {xs : Nat → Int32} {L : Nat} : csZ (cs16 xs L) := cz15.sP
theorem cq17 {xs : Nat → Int32} {L : Nat} : csQ (cs17 xs L) (cs17 (fun _ => 0) 0) := cq16.new
theorem cz17 {xs : Nat → Int32} {L : Nat} : csZ (cs17 xs L) := cz16.new
theorem cq18 {xs : Nat → Int32} {L : Nat} : csQ (cs18 xs L) (cs18 (fun _ => 0) 0) := cq17.sP
theorem cz18 {xs : Nat → Int32} {L : Nat} : csZ (cs18 xs L) := cz17.sP
theorem cq19 {xs : Nat → Int32} {L : Nat} : csQ (cs19 xs L) (cs19 (fun _ => 0) 0) := cq18.new
theorem cz19 {xs : Nat → Int32} {L : Nat} : csZ (cs19 xs L) := cz18.new
theorem cq20 {xs : Nat → Int32} {L : Nat} : csQ (cs20 xs L) (cs20 (fun _ => 0) 0) := cq19.sP
theorem cz20 {xs : Nat → Int32} {L : Nat} : csZ (cs20 xs L) := cz19.sP
theorem cq21 {xs : Nat → Int32} {L : Nat} : csQ (cs21 xs L) (cs21 (fun _ => 0) 0) := cq20.new
theorem cz21 {xs : Nat → Int32} {L : Nat} : csZ (cs21 xs L) := cz20.new
theorem cq22 {xs : Nat → Int32} {L : Nat} : csQ (cs22 xs L) (cs22 (fun _ => 0) 0) := cq21.sP
theorem cz22 {xs : Nat → Int32} {L : Nat} : csZ (cs22 xs L) := cz21.sP
theorem cq23 {xs : Nat → Int32} {L : Nat} : csQ (cs23 xs L) (cs23 (fun _ => 0) 0) := cq22.new
theorem cz23 {xs : Nat → Int32} {L : Nat} : csZ (cs23 xs L) := cz22.new
theorem cq24 {xs : Nat → Int32} {L : Nat} : csQ (cs24 xs L) (cs24 (fun _ => 0) 0) := cq23.sP
theorem cz24 {xs : Nat → Int32} {L : Nat} : csZ (cs24 xs L) := cz23.sP
theorem cq25 {xs : Nat → Int32} {L : Nat} : csQ (cs25 xs L) (cs25 (fun _ => 0) 0) := cq24.sP
theorem cz25 {xs : Nat → Int32} {L : Nat} : csZ (cs25 xs L) := cz24.sP
theorem cq26 {xs : Nat → Int32} {L : Nat} : csQ (cs26 xs L) (cs26 (fun _ => 0) 0) := cq25.new
theorem cz26 {xs : Nat → Int32} {L : Nat} : csZ (cs26 xs L) := cz25.new
theorem cq27 {xs : Nat → Int32} {L : Nat} : csQ (cs27 xs L) (cs27 (fun _ => 0) 0) := cq26.new
theorem cz27 {xs : Nat → Int32} {L : Nat} : csZ (cs27 xs L) := cz26.new
theorem cq28 {xs : Nat → Int32} {L : Nat} : csQ (cs28 xs L) (cs28 (fun _ => 0) 0) := cq27.sP
theorem cz28 {xs : Nat → Int32} {L : Nat} : csZ (cs28 xs L) := cz27.sP
theorem cq29 {xs : Nat → Int32} {L : Nat} : csQ (cs29 xs L) (cs29 (fun _ => 0) 0) := cq28.new
theorem cz29 {xs : Nat → Int32} {L : Nat} : csZ (cs29 xs L) := cz28.new
theorem cq30 {xs : Nat → Int32} {L : Nat} : csQ (cs30 xs L) (cs30 (fun _ => 0) 0) := cq29.sP
theorem cz30 {xs : Nat → Int32} {L : Nat} : csZ (cs30 xs L) := cz29.sP
theorem cq31 {xs : Nat → Int32} {L : Nat} : csQ (cs31 xs L) (cs31 (fun _ => 0) 0) := cq30.new
theorem cz31 {xs : Nat → Int32} {L : Nat} : csZ (cs31 xs L) := cz30.new
theorem cq32 {xs : Nat → Int32} {L : Nat} : csQ (cs32 xs L) (cs32 (fun _ => 0) 0) := cq31.sP
theorem cz32 {xs : Nat → Int32} {L : Nat} : csZ (cs32 xs L) := cz31.sP
theorem cq33 {xs : Nat → Int32} {L : Nat} : csQ (cs33 xs L) (cs33 (fun _ => 0) 0) := cq32.new
theorem cz33 {xs : Nat → Int32} {L : Nat} : csZ (cs33 xs L) := cz32.new
theorem cq34 {xs : Nat → Int32} {L : Nat} : csQ (cs34 xs L) (cs34 (fun _ => 0) 0) := cq33.sP
theorem cz34 {xs : Nat → Int32} {L : Nat} : csZ (cs34 xs L) := cz33.sP
theorem cq35 {xs : Nat → Int32} {L : Nat} : csQ (cs35 xs L) (cs35 (fun _ => 0) 0) := cq34.new
theorem cz35 {xs : Nat → Int32} {L : Nat} : csZ (cs35 xs L) := cz34.new
theorem cq36 {xs : Nat → Int32} {L : Nat} : csQ (cs36 xs L) (cs36 (fun _ => 0) 0) := cq35.sP
theorem cz36 {xs : Nat → Int32} {L : Nat} : csZ (cs36 xs L) := cz35.sP
theorem cq37 {xs : Nat → Int32} {L : Nat} : csQ (cs37 xs L) (cs37 (fun _ => 0) 0) := cq36.sP
theorem cz37 {xs : Nat → Int32} {L : Nat} : csZ (cs37 xs L) := cz36.sP
theorem cq38 {xs : Nat → Int32} {L : Nat} : csQ (cs38 xs L) (cs38 (fun _ => 0) 0) := cq37.sI
theorem cz38 {xs : Nat → Int32} {L : Nat} : csZ (cs38 xs L) := cz37.sI
theorem cq39 {xs : Nat → Int32} {L : Nat} : csQ (cs39 xs L) (cs39 (fun _ => 0) 0) := cq38.new
theorem cz39 {xs : Nat → Int32} {L : Nat} : csZ (cs39 xs L) := cz38.new
theorem cq40 {xs : Nat → Int32} {L : Nat} : csQ (cs40 xs L) (cs40 (fun _ => 0) 0) := cq39.new
theorem cz40 {xs : Nat → Int32} {L : Nat} : csZ (cs40 xs L) := cz39.new
theorem cq41 {xs : Nat → Int32} {L : Nat} : csQ (cs41 xs L) (cs41 (fun _ => 0) 0) := cq40.sP
theorem cz41 {xs : Nat → Int32} {L : Nat} : csZ (cs41 xs L) := cz40.sP
theorem cq42 {xs : Nat → Int32} {L : Nat} : csQ (cs42 xs L) (cs42 (fun _ => 0) 0) := cq41.new
theorem cz42 {xs : Nat → Int32} {L : Nat} : csZ (cs42 xs L) := cz41.new
theorem cq43 {xs : Nat → Int32} {L : Nat} : csQ (cs43 xs L) (cs43 (fun _ => 0) 0) := cq42.sP
theorem cz43 {xs : Nat → Int32} {L : Nat} : csZ (cs43 xs L) := cz42.sP
theorem cq44 {xs : Nat → Int32} {L : Nat} : csQ (cs44 xs L) (cs44 (fun _ => 0) 0) := cq43.sP
theorem cz44 {xs : Nat → Int32} {L : Nat} : csZ (cs44 xs L) := cz43.sP
theorem cq45 {xs : Nat → Int32} {L : Nat} : csQ (cs45 xs L) (cs45 (fun _ => 0) 0) := cq44.new
theorem cz45 {xs : Nat → Int32} {L : Nat} : csZ (cs45 xs L) := cz44.new
theorem cq46 {xs : Nat → Int32} {L : Nat} : csQ (cs46 xs L) (cs46 (fun _ => 0) 0) := cq45.sP
theorem cz46 {xs : Nat → Int32} {L : Nat} : csZ (cs46 xs L) := cz45.sP
theorem cq47 {xs : Nat → Int32} {L : Nat} : csQ (cs47 xs L) (cs47 (fun _ => 0) 0) := cq46.new
theorem cz47 {xs : Nat → Int32} {L : Nat} : csZ (cs47 xs L) := cz46.new
theorem cq48 {xs : Nat → Int32} {L : Nat} : csQ (cs48 xs L) (cs48 (fun _ => 0) 0) := cq47.sP
theorem cz48 {xs : Nat → Int32} {L : Nat} : csZ (cs48 xs L) := cz47.sP
theorem cq49 {xs : Nat → Int32} {L : Nat} : csQ (cs49 xs L) (cs49 (fun _ => 0) 0) := cq48.new
theorem cz49 {xs : Nat → Int32} {L : Nat} : csZ (cs49 xs L) := cz48.new
theorem cq50 {xs : Nat → Int32} {L : Nat} : csQ (cs50 xs L) (cs50 (fun _ => 0) 0) := cq49.sP
theorem cz50 {xs : Nat → Int32} {L : Nat} : csZ (cs50 xs L) := cz49.sP
theorem cq51 {xs : Nat → Int32} {L : Nat} : csQ (cs51 xs L) (cs51 (fun _ => 0) 0) := cq50.new
theorem cz51 {xs : Nat → Int32} {L : Nat} : csZ (cs51 xs L) := cz50.new
theorem cq52 {xs : Nat → Int32} {L : Nat} : csQ (cs52 xs L) (cs52 (fun _ => 0) 0) := cq51.sP
theorem cz52 {xs : Nat → Int32} {L : Nat} : csZ (cs52 xs L) := cz51.sP
theorem cq53 {xs : Nat → Int32} {L : Nat} : csQ (cs53 xs L) (cs53 (fun _ => 0) 0) := cq52.new
theorem cz53 {xs : Nat → Int32} {L : Nat} : csZ (cs53 xs L) := cz52.new
theorem cq54 {xs : Nat → Int32} {L : Nat} : csQ (cs54 xs L) (cs54 (fun _ => 0) 0) := cq53.sP
theorem cz54 {xs : Nat → Int32} {L : Nat} : csZ (cs54 xs L) := cz53.sP
theorem cq55 {xs : Nat → Int32} {L : Nat} : csQ (cs55 xs L) (cs55 (fun _ => 0) 0) := cq54.new
theorem cz55 {xs : Nat → Int32} {L : Nat} : csZ (cs55 xs L) := cz54.new
theorem cq56 {xs : Nat → Int32} {L : Nat} : csQ (cs56 xs L) (cs56 (fun _ => 0) 0) := cq55.new
theorem cz56 {xs : Nat → Int32} {L : Nat} : csZ (cs56 xs L) := cz55.new
theorem cq57 {xs : Nat → Int32} {L : Nat} : csQ (cs57 xs L) (cs57 (fun _ => 0) 0) := cq56.sP
theorem cz57 {xs : Nat → Int32} {L : Nat} : csZ (cs57 xs L) := cz56.sP
theorem cq58 {xs : Nat → Int32} {L : Nat} : csQ (cs58 xs L) (cs58 (fun _ => 0) 0) := cq57.sP
theorem cz58 {xs : Nat → Int32} {L : Nat} : csZ (cs58 xs L) := cz57.sP
theorem cq59 {xs : Nat → Int32} {L : Nat} : csQ (cs59 xs L) (cs59 (fun _ => 0) 0) := cq58.new
theorem cz59 {xs : Nat → Int32} {L : Nat} : csZ (cs59 xs L) := cz58.new
theorem cq60 {xs : Nat → Int32} {L : Nat} : csQ (cs60 xs L) (cs60 (fun _ => 0) 0) := cq59.new
theorem cz60 {xs : Nat → Int32} {L : Nat} : csZ (cs60 xs L) := cz59.new
theorem cq61 {xs : Nat → Int32} {L : Nat} : csQ (cs61 xs L) (cs61 (fun _ => 0) 0) := cq60.sP
theorem cz61 {xs : Nat → Int32} {L : Nat} : csZ (cs61 xs L) := cz60.sP
theorem cq62 {xs : Nat → Int32} {L : Nat} : csQ (cs62 xs L) (cs62 (fun _ => 0) 0) := cq61.sP
theorem cz62 {xs : Nat → Int32} {L : Nat} : csZ (cs62 xs L) := cz61.sP
theorem cq63 {xs : Nat → Int32} {L : Nat} : csQ (cs63 xs L) (cs63 (fun _ => 0) 0) := cq62.new
theorem cz63 {xs : Nat → Int32} {L : Nat} : csZ (cs63 xs L) := cz62.new
theorem cq64 {xs : Nat → Int32} {L : Nat} : csQ (cs64 xs L) (cs64 (fun _ => 0) 0) := cq63.new
theorem cz64 {xs : Nat → Int32} {L : Nat} : csZ (cs64 xs L) := cz63.new
theorem cq65 {xs : Nat → Int32} {L : Nat} : csQ (cs65 xs L) (cs65 (fun _ => 0) 0) := cq64.sP
theorem cz65 {xs : Nat → Int32} {L : Nat} : csZ (cs65 xs L) := cz64.sP
theorem cq66 {xs : Nat → Int32} {L : Nat} : csQ (cs66 xs L) (cs66 (fun _ => 0) 0) := cq65.sP
theorem cz66 {xs : Nat → Int32} {L : Nat} : csZ (cs66 xs L) := cz65.sP
theorem cq67 {xs : Nat → Int32} {L : Nat} : csQ (cs67 xs L) (cs67 (fun _ => 0) 0) := cq66.new
theorem cz67 {xs : Nat → Int32} {L : Nat} : csZ (cs67 xs L) := cz66.new
theorem cq68 {xs : Nat → Int32} {L : Nat} : csQ (cs68 xs L) (cs68 (fun _ => 0) 0) := cq67.new
theorem cz68 {xs : Nat → Int32} {L : Nat} : csZ (cs68 xs L) := cz67.new
theorem cq69 {xs : Nat → Int32} {L : Nat} : csQ (cs69 xs L) (cs69 (fun _ => 0) 0) := cq68.sP
theorem cz69 {xs : Nat → Int32} {L : Nat} : csZ (cs69 xs L) := cz68.sP
theorem cq70 {xs : Nat → Int32} {L : Nat} : csQ (cs70 xs L) (cs70 (fun _ => 0) 0) := cq69.sP
theorem cz70 {xs : Nat → Int32} {L : Nat} : csZ (cs70 xs L) := cz69.sP
theorem cq71 {xs : Nat → Int32} {L : Nat} : csQ (cs71 xs L) (cs71 (fun _ => 0) 0) := cq70.new
theorem cz71 {xs : Nat → Int32} {L : Nat} : csZ (cs71 xs L) := cz70.new
theorem cq72 {xs : Nat → Int32} {L : Nat} : csQ (cs72 xs L) (cs72 (fun _ => 0) 0) := cq71.new
theorem cz72 {xs : Nat → Int32} {L : Nat} : csZ (cs72 xs L) := cz71.new
theorem cq73 {xs : Nat → Int32} {L : Nat} : csQ (cs73 xs L) (cs73 (fun _ => 0) 0) := cq72.sP
theorem cz73 {xs : Nat → Int32} {L : Nat} : csZ (cs73 xs L) := cz72.sP
theorem cq74 {xs : Nat → Int32} {L : Nat} : csQ (cs74 xs L) (cs74 (fun _ => 0) 0) := cq73.sP
theorem cz74 {xs : Nat → Int32} {L : Nat} : csZ (cs74 xs L) := cz73.sP
theorem cq75 {xs : Nat → Int32} {L : Nat} : csQ (cs75 xs L) (cs75 (fun _ => 0) 0) := cq74.new
theorem cz75 {xs : Nat → Int32} {L : Nat} : csZ (cs75 xs L) := cz74.new
theorem cq76 {xs : Nat → Int32} {L : Nat} : csQ (cs76 xs L) (cs76 (fun _ => 0) 0) := cq75.new
theorem cz76 {xs : Nat → Int32} {L : Nat} : csZ (cs76 xs L) := cz75.new
theorem cq77 {xs : Nat → Int32} {L : Nat} : csQ (cs77 xs L) (cs77 (fun _ => 0) 0) := cq76.sP
theorem cz77 {xs : Nat → Int32} {L : Nat} : csZ (cs77 xs L) := cz76.sP
theorem cq78 {xs : Nat → Int32} {L : Nat} : csQ (cs78 xs L) (cs78 (fun _ => 0) 0) := cq77.sP
theorem cz78 {xs : Nat → Int32} {L : Nat} : csZ (cs78 xs L) := cz77.sP
theorem cq79 {xs : Nat → Int32} {L : Nat} : csQ (cs79 xs L) (cs79 (fun _ => 0) 0) := cq78.new
theorem cz79 {xs : Nat → Int32} {L : Nat} : csZ (cs79 xs L) := cz78.new
theorem cq80 {xs : Nat → Int32} {L : Nat} : csQ (cs80 xs L) (cs80 (fun _ => 0) 0) := cq79.new
theorem cz80 {xs : Nat → Int32} {L : Nat} : csZ (cs80 xs L) := cz79.new
theorem cq81 {xs : Nat → Int32} {L : Nat} : csQ (cs81 xs L) (cs81 (fun _ => 0) 0) := cq80.sP
theorem cz81 {xs : Nat → Int32} {L : Nat} : csZ (cs81 xs L) := cz80.sP
theorem cq82 {xs : Nat → Int32} {L : Nat} : csQ (cs82 xs L) (cs82 (fun _ => 0) 0) := cq81.sP
theorem cz82 {xs : Nat → Int32} {L : Nat} : csZ (cs82 xs L) := cz81.sP
theorem cq83 {xs : Nat → Int32} {L : Nat} : csQ (cs83 xs L) (cs83 (fun _ => 0) 0) := cq82.new
theorem cz83 {xs : Nat → Int32} {L : Nat} : csZ (cs83 xs L) := cz82.new
theorem cq84 {xs : Nat → Int32} {L : Nat} : csQ (cs84 xs L) (cs84 (fun _ => 0) 0) := cq83.new
theorem cz84 {xs : Nat → Int32} {L : Nat} : csZ (cs84 xs L) := cz83.new
theorem cq85 {xs : Nat → Int32} {L : Nat} : csQ (cs85 xs L) (cs85 (fun _ => 0) 0) := cq84.sP
theorem cz85 {xs : Nat → Int32} {L : Nat} : csZ (cs85 xs L) := cz84.sP
theorem cq86 {xs : Nat → Int32} {L : Nat} : csQ (cs86 xs L) (cs86 (fun _ => 0) 0) := cq85.sP
theorem cz86 {xs : Nat → Int32} {L : Nat} : csZ (cs86 xs L) := cz85.sP
theorem cq87 {xs : Nat → Int32} {L : Nat} : csQ (cs87 xs L) (cs87 (fun _ => 0) 0) := cq86.new
theorem cz87 {xs : Nat → Int32} {L : Nat} : csZ (cs87 xs L) := cz86.new
theorem cq88 {xs : Nat → Int32} {L : Nat} : csQ (cs88 xs L) (cs88 (fun _ => 0) 0) := cq87.new
theorem cz88 {xs : Nat → Int32} {L : Nat} : csZ (cs88 xs L) := cz87.new
theorem cq89 {xs : Nat → Int32} {L : Nat} : csQ (cs89 xs L) (cs89 (fun _ => 0) 0) := cq88.sP
theorem cz89 {xs : Nat → Int32} {L : Nat} : csZ (cs89 xs L) := cz88.sP
theorem cq90 {xs : Nat → Int32} {L : Nat} : csQ (cs90 xs L) (cs90 (fun _ => 0) 0) := cq89.new
theorem cz90 {xs : Nat → Int32} {L : Nat} : csZ (cs90 xs L) := cz89.new
theorem cq91 {xs : Nat → Int32} {L : Nat} : csQ (cs91 xs L) (cs91 (fun _ => 0) 0) := cq90.sP
theorem cz91 {xs : Nat → Int32} {L : Nat} : csZ (cs91 xs L) := cz90.sP
theorem cq92 {xs : Nat → Int32} {L : Nat} : csQ (cs92 xs L) (cs92 (fun _ => 0) 0) := cq91.new
theorem cz92 {xs : Nat → Int32} {L : Nat} : csZ (cs92 xs L) := cz91.new
theorem cq93 {xs : Nat → Int32} {L : Nat} : csQ (cs93 xs L) (cs93 (fun _ => 0) 0) := cq92.sP
theorem cz93 {xs : Nat → Int32} {L : Nat} : csZ (cs93 xs L) := cz92.sP
theorem cq94 {xs : Nat → Int32} {L : Nat} : csQ (cs94 xs L) (cs94 (fun _ => 0) 0) := cq93.new
theorem cz94 {xs : Nat → Int32} {L : Nat} : csZ (cs94 xs L) := cz93.new
theorem cq95 {xs : Nat → Int32} {L : Nat} : csQ (cs95 xs L) (cs95 (fun _ => 0) 0) := cq94.sP
theorem cz95 {xs : Nat → Int32} {L : Nat} : csZ (cs95 xs L) := cz94.sP
theorem cq96 {xs : Nat → Int32} {L : Nat} : csQ (cs96 xs L) (cs96 (fun _ => 0) 0) := cq95.new
theorem cz96 {xs : Nat → Int32} {L : Nat} : csZ (cs96 xs L) := cz95.new
theorem cq97 {xs : Nat → Int32} {L : Nat} : csQ (cs97 xs L) (cs97 (fun _ => 0) 0) := cq96.sP
theorem cz97 {xs : Nat → Int32} {L : Nat} : csZ (cs97 xs L) := cz96.sP
theorem cq98 {xs : Nat → Int32} {L : Nat} : csQ (cs98 xs L) (cs98 (fun _ => 0) 0) := cq97.new
theorem cz98 {xs : Nat → Int32} {L : Nat} : csZ (cs98 xs L) := cz97.new
theorem cq99 {xs : Nat → Int32} {L : Nat} : csQ (cs99 xs L) (cs99 (fun _ => 0) 0) := cq98.sP
theorem cz99 {xs : Nat → Int32} {L : Nat} : csZ (cs99 xs L) := cz98.sP
theorem cq100 {xs : Nat → Int32} {L : Nat} : csQ (cs100 xs L) (cs100 (fun _ => 0) 0) := cq99.new
theorem cz100 {xs : Nat → Int32} {L : Nat} : csZ (cs100 xs L) := cz99.new
theorem cq101 {xs : Nat → Int32} {L : Nat} : csQ (cs101 xs L) (cs101 (fun _ => 0) 0) := cq100.sP
theorem cz101 {xs : Nat → Int32} {L : Nat} : csZ (cs101 xs L) := cz100.sP
theorem cq102 {xs : Nat → Int32} {L : Nat} : csQ (cs102 xs L) (cs102 (fun _ => 0) 0) := cq101.new
theorem cz102 {xs : Nat → Int32} {L : Nat} : csZ (cs102 xs L) := cz101.new
theorem cq103 {xs : Nat → Int32} {L : Nat} : csQ (cs103 xs L) (cs103 (fun _ => 0) 0) := cq102.sP
theorem cz103 {xs : Nat → Int32} {L : Nat} : csZ (cs103 xs L) := cz102.sP
theorem cq104 {xs : Nat → Int32} {L : Nat} : csQ (cs104 xs L) (cs104 (fun _ => 0) 0) := cq103.new
theorem cz104 {xs : Nat → Int32} {L : Nat} : csZ (cs104 xs L) := cz103.new
theorem cq105 {xs : Nat → Int32} {L : Nat} : csQ (cs105 xs L) (cs105 (fun _ => 0) 0) := cq104.sP
theorem cz105 {xs : Nat → Int32} {L : Nat} : csZ (cs105 xs L) := cz104.sP
theorem cq106 {xs : Nat → Int32} {L : Nat} : csQ (cs106 xs L) (cs106 (fun _ => 0) 0) := cq105.new
theorem cz106 {xs : Nat → Int32} {L : Nat} : csZ (cs106 xs L) := cz105.new
theorem cq107 {xs : Nat → Int32} {L : Nat} : csQ (cs107 xs L) (cs107 (fun _ => 0) 0) := cq106.sP
theorem cz107 {xs : Nat → Int32} {L : Nat} : csZ (cs107 xs L) := cz106.sP
theorem cq108 {xs : Nat → Int32} {L : Nat} : csQ (cs108 xs L) (cs108 (fun _ => 0) 0) := cq107.new
theorem cz108 {xs : Nat → Int32} {L : Nat} : csZ (cs108 xs L) := cz107.new
theorem cq109 {xs : Nat → Int32} {L : Nat} : csQ (cs109 xs L) (cs109 (fun _ => 0) 0) := cq108.sP
theorem cz109 {xs : Nat → Int32} {L : Nat} : csZ (cs109 xs L) := cz108.sP
theorem cq110 {xs : Nat → Int32} {L : Nat} : csQ (cs110 xs L) (cs110 (fun _ => 0) 0) := cq109.new
theorem cz110 {xs : Nat → Int32} {L : Nat} : csZ (cs110 xs L) := cz109.new
theorem cq111 {xs : Nat → Int32} {L : Nat} : csQ (cs111 xs L) (cs111 (fun _ => 0) 0) := cq110.sP
theorem cz111 {xs : Nat → Int32} {L : Nat} : csZ (cs111 xs L) := cz110.sP
theorem cq112 {xs : Nat → Int32} {L : Nat} : csQ (cs112 xs L) (cs112 (fun _ => 0) 0) := cq111.new
theorem cz112 {xs : Nat → Int32} {L : Nat} : csZ (cs112 xs L) := cz111.new
theorem cq113 {xs : Nat → Int32} {L : Nat} : csQ (cs113 xs L) (cs113 (fun _ => 0) 0) := cq112.sP
theorem cz113 {xs : Nat → Int32} {L : Nat} : csZ (cs113 xs L) := cz112.sP
theorem cq114 {xs : Nat → Int32} {L : Nat} : csQ (cs114 xs L) (cs114 (fun _ => 0) 0) := cq113.new
theorem cz114 {xs : Nat → Int32} {L : Nat} : csZ (cs114 xs L) := cz113.new
theorem cq115 {xs : Nat → Int32} {L : Nat} : csQ (cs115 xs L) (cs115 (fun _ => 0) 0) := cq114.sP
theorem cz115 {xs : Nat → Int32} {L : Nat} : csZ (cs115 xs L) := cz114.sP
theorem cq116 {xs : Nat → Int32} {L : Nat} : csQ (cs116 xs L) (cs116 (fun _ => 0) 0) := cq115.new
theorem cz116 {xs : Nat → Int32} {L : Nat} : csZ (cs116 xs L) := cz115.new
theorem cq117 {xs : Nat → Int32} {L : Nat} : csQ (cs117 xs L) (cs117 (fun _ => 0) 0) := cq116.sP
theorem cz117 {xs : Nat → Int32} {L : Nat} : csZ (cs117 xs L) := cz116.sP
theorem cq118 {xs : Nat → Int32} {L : Nat} : csQ (cs118 xs L) (cs118 (fun _ => 0) 0) := cq117.new
theorem cz118 {xs : Nat → Int32} {L : Nat} : csZ (cs118 xs L) := cz117.new
theorem cq119 {xs : Nat → Int32} {L : Nat} : csQ (cs119 xs L) (cs119 (fun _ => 0) 0) := cq118.sP
theorem cz119 {xs : Nat → Int32} {L : Nat} : csZ (cs119 xs L) := cz118.sP
theorem cq120 {xs : Nat → Int32} {L : Nat} : csQ (cs120 xs L) (cs120 (fun _ => 0) 0) := cq119.new
theorem cz120 {xs : Nat → Int32} {L : Nat} : csZ (cs120 xs L) := cz119.new
theorem cq121 {xs : Nat → Int32} {L : Nat} : csQ (cs121 xs L) (cs121 (fun _ => 0) 0) := cq120.sP
theorem cz121 {xs : Nat → Int32} {L : Nat} : csZ (cs121 xs L) := cz120.sP
theorem cq122 {xs : Nat → Int32} {L : Nat} : csQ (cs122 xs L) (cs122 (fun _ => 0) 0) := cq121.new
theorem cz122 {xs : Nat → Int32} {L : Nat} : csZ (cs122 xs L) := cz121.new
theorem cq123 {xs : Nat → Int32} {L : Nat} : csQ (cs123 xs L) (cs123 (fun _ => 0) 0) := cq122.sP
theorem cz123 {xs : Nat → Int32} {L : Nat} : csZ (cs123 xs L) := cz122.sP
theorem cq124 {xs : Nat → Int32} {L : Nat} : csQ (cs124 xs L) (cs124 (fun _ => 0) 0) := cq123.new
theorem cz124 {xs : Nat → Int32} {L : Nat} : csZ (cs124 xs L) := cz123.new
theorem cq125 {xs : Nat → Int32} {L : Nat} : csQ (cs125 xs L) (cs125 (fun _ => 0) 0) := cq124.sP
theorem cz125 {xs : Nat → Int32} {L : Nat} : csZ (cs125 xs L) := cz124.sP
theorem cq126 {xs : Nat → Int32} {L : Nat} : csQ (cs126 xs L) (cs126 (fun _ => 0) 0) := cq125.new
theorem cz126 {xs : Nat → Int32} {L : Nat} : csZ (cs126 xs L) := cz125.new
theorem cq127 {xs : Nat → Int32} {L : Nat} : csQ (cs127 xs L) (cs127 (fun _ => 0) 0) := cq126.sP
theorem cz127 {xs : Nat → Int32} {L : Nat} : csZ (cs127 xs L) := cz126.sP
theorem cq128 {xs : Nat → Int32} {L : Nat} : csQ (cs128 xs L) (cs128 (fun _ => 0) 0) := cq127.new
theorem cz128 {xs : Nat → Int32} {L : Nat} : csZ (cs128 xs L) := cz127.new
theorem cq129 {xs : Nat → Int32} {L : Nat} : csQ (cs129 xs L) (cs129 (fun _ => 0) 0) := cq128.sP
theorem cz129 {xs : Nat → Int32} {L : Nat} : csZ (cs129 xs L) := cz128.sP
theorem cq130 {xs : Nat → Int32} {L : Nat} : csQ (cs130 xs L) (cs130 (fun _ => 0) 0) := cq129.new
theorem cz130 {xs : Nat → Int32} {L : Nat} : csZ (cs130 xs L) := cz129.new
theorem cq131 {xs : Nat → Int32} {L : Nat} : csQ (cs131 xs L) (cs131 (fun _ => 0) 0) := cq130.sP
theorem cz131 {xs : Nat → Int32} {L : Nat} : csZ (cs131 xs L) := cz130.sP
theorem cq132 {xs : Nat → Int32} {L : Nat} : csQ (cs132 xs L) (cs132 (fun _ => 0) 0) := cq131.new
theorem cz132 {xs : Nat → Int32} {L : Nat} : csZ (cs132 xs L) := cz131.new
theorem cq133 {xs : Nat → Int32} {L : Nat} : csQ (cs133 xs L) (cs133 (fun _ => 0) 0) := cq132.sP
theorem cz133 {xs : Nat → Int32} {L : Nat} : csZ (cs133 xs L) := cz132.sP
theorem cq134 {xs : Nat → Int32} {L : Nat} : csQ (cs134 xs L) (cs134 (fun _ => 0) 0) := cq133.new
theorem cz134 {xs : Nat → Int32} {L : Nat} : csZ (cs134 xs L) := cz133.new
theorem cq135 {xs : Nat → Int32} {L : Nat} : csQ (cs135 xs L) (cs135 (fun _ => 0) 0) := cq134.sP
theorem cz135 {xs : Nat → Int32} {L : Nat} : csZ (cs135 xs L) := cz134.sP
theorem cq136 {xs : Nat → Int32} {L : Nat} : csQ (cs136 xs L) (cs136 (fun _ => 0) 0) := cq135.new
theorem cz136 {xs : Nat → Int32} {L : Nat} : csZ (cs136 xs L) := cz135.new
theorem cq137 {xs : Nat → Int32} {L : Nat} : csQ (cs137 xs L) (cs137 (fun _ => 0) 0) := cq136.sP
theorem cz137 {xs : Nat → Int32} {L : Nat} : csZ (cs137 xs L) := cz136.sP
theorem cq138 {xs : Nat → Int32} {L : Nat} : csQ (cs138 xs L) (cs138 (fun _ => 0) 0) := cq137.new
theorem cz138 {xs : Nat → Int32} {L : Nat} : csZ (cs138 xs L) := cz137.new
theorem cq139 {xs : Nat → Int32} {L : Nat} : csQ (cs139 xs L) (cs139 (fun _ => 0) 0) := cq138.sP
theorem cz139 {xs : Nat → Int32} {L : Nat} : csZ (cs139 xs L) := cz138.sP
theorem cq140 {xs : Nat → Int32} {L : Nat} : csQ (cs140 xs L) (cs140 (fun _ => 0) 0) := cq139.new
theorem cz140 {xs : Nat → Int32} {L : Nat} : csZ (cs140 xs L) := cz139.new
theorem cq141 {xs : Nat → Int32} {L : Nat} : csQ (cs141 xs L) (cs141 (fun _ => 0) 0) := cq140.sP
theorem cz141 {xs : Nat → Int32} {L : Nat} : csZ (cs141 xs L) := cz140.sP
theorem cq142 {xs : Nat → Int32} {L : Nat} : csQ (cs142 xs L) (cs142 (fun _ => 0) 0) := cq141.new
theorem cz142 {xs : Nat → Int32} {L : Nat} : csZ (cs142 xs L) := cz141.new
theorem cq143 {xs : Nat → Int32} {L : Nat} : csQ (cs143 xs L) (cs143 (fun _ => 0) 0) := cq142.sP
theorem cz143 {xs : Nat → Int32} {L : Nat} : csZ (cs143 xs L) := cz142.sP
theorem cq144 {xs : Nat → Int32} {L : Nat} : csQ (cs144 xs L) (cs144 (fun _ => 0) 0) := cq143.new
theorem cz144 {xs : Nat → Int32} {L : Nat} : csZ (cs144 xs L) := cz143.new
theorem cq145 {xs : Nat → Int32} {L : Nat} : csQ (cs145 xs L) (cs145 (fun _ => 0) 0) := cq144.sP
theorem cz145 {xs : Nat → Int32} {L : Nat} : csZ (cs145 xs L) := cz144.sP
theorem cq146 {xs : Nat → Int32} {L : Nat} : csQ (cs146 xs L) (cs146 (fun _ => 0) 0) := cq145.new
theorem cz146 {xs : Nat → Int32} {L : Nat} : csZ (cs146 xs L) := cz145.new
theorem cq147 {xs : Nat → Int32} {L : Nat} : csQ (cs147 xs L) (cs147 (fun _ => 0) 0) := cq146.sP
theorem cz147 {xs : Nat → Int32} {L : Nat} : csZ (cs147 xs L) := cz146.sP
theorem cq148 {xs : Nat → Int32} {L : Nat} : csQ (cs148 xs L) (cs148 (fun _ => 0) 0) := cq147.new
theorem cz148 {xs : Nat → Int32} {L : Nat} : csZ (cs148 xs L) := cz147.new
theorem mjfix_j {a j : Nat} (h : 45 ≤ j) : mjfix a j = none := by
  have hb : ∀ c, c < 45 → Nat.ble j c = false := fun c hc => ble_no (by omega)
  have hq : ∀ c, c < 45 → Nat.beq j c = false := fun c hc => by
    cases e : Nat.beq j c
    · rfl
    · have := Nat.eq_of_beq_eq_true e
      omega
  unfold mjfix
  simp [hb, hq]
theorem cs_fP : mjfP (cs148 (fun _ => 0) 0).2.1 = (cs148 (fun _ => 0) 0).2.1 := by
  funext a j
  unfold mjfP
  cases e : mjfix a j with
  | none => rfl
  | some k =>
    have ha : a < 75 := Nat.lt_of_not_le fun w => by rw [mjfix_hi w] at e; cases e
    have hj : j < 45 := Nat.lt_of_not_le fun w => by rw [mjfix_j w] at e; cases e
    rcases cs_P ⟨a, ha⟩ ⟨j, hj⟩ with h | h
    · have h : mjfix a j = none := h
      rw [h] at e
      cases e
    · have h : (cs148 (fun _ => 0) 0).2.1 a j = mjfix a j := h
      show some k = _
      rw [h, e]
theorem cs_n : (cs148 (fun _ => 0) 0).2.2.2.2 = (75, 75, 2137) := rfl
theorem cs_nP : ∀ k : Fin 26, ∀ i : Fin 6, k.val = 5 ∨ k.val = 17 → (cs148 (fun _ => 0) 0).2.1 k.val i.val = none := by decide +kernel
def csX (xs : Nat → Int32) (L : Nat) : MX := ((cs148 xs L).2.1, (cs148 xs L).2.2.1, (cs148 xs L).2.2.2.1, 0, 75, 2137)
theorem cs_eq {xs : Nat → Int32} {L : Nat} : cs148 xs L = mjH (cs148 xs L).1 (csX xs L) := by
  have h1 : mjfP (cs148 xs L).2.1 = (cs148 xs L).2.1 := by
    rw [(cq148 (xs := xs) (L := L)).1]
    exact cs_fP
  have h2 : mjfT (cs148 xs L).2.2.2.1 = (cs148 xs L).2.2.2.1 := by
    funext a
    unfold mjfT
    cases e : Nat.blt a 75
    · rfl
    · have ha : a < 75 := by simpa [Nat.blt_eq] using e
      exact (cs_T a ha).symm
  have h3 : (cs148 xs L).2.2.2.2 = (75, 75, 2137) := (cq148 (xs := xs) (L := L)).2.trans cs_n
  generalize hc : cs148 xs L = c at h1 h2 h3
  have hX : csX xs L = (c.2.1, c.2.2.1, c.2.2.2.1, 0, 75, 2137) := by
    unfold csX
    rw [hc]
  rw [hX]
  obtain ⟨c1, c2, c3, c4, c5⟩ := c
  have h3 : c5 = (75, 75, 2137) := h3
  have h1 : mjfP c2 = c2 := h1
  have h2 : mjfT c4 = c4 := h2
  show (c1, c2, c3, c4, c5) = (c1, mjfP c2, c3, mjfT c4, 0 + 75, 75, 2137)
  rw [h1, h2, h3]
theorem cs_RI {xs : Nat → Int32} {L : Nat} : RI (cs148 xs L).1 (csX xs L) := by
  have hz : ∀ a, a < 2000000 → (cs148 xs L).1 a = fun _ => 0 := fun a ha => cz148 a (by omega)
  have hP : ∀ k i, k = 5 ∨ k = 17 → i < 6 → (csX xs L).1 k i = none := fun k i hk hi => by
    have e := congrFun (congrFun (cq148 (xs := xs) (L := L)).1 k) i
    exact e.trans (cs_nP ⟨k, by omega⟩ ⟨i, hi⟩ hk)
  generalize (cs148 xs L).1 = I at hz
  generalize csX xs L = X at hP
  have z : ∀ a j, a < 2000000 → I a j = 0 := fun a j ha => congrFun (hz a ha) j
  have n0 : nI 0 = 0 := by decide
  have tr : ∀ t m, t < 1000 → m < 1000 → tR I X t m 0 0 0 0 := fun t m ht hm => by
    refine ⟨⟨(z _ _ (by omega)).trans n0.symm, (z _ _ (by omega)).trans n0.symm⟩, ⟨(z _ _ (by omega)).trans n0.symm, (z _ _ (by omega)).trans n0.symm⟩, ⟨(z _ _ (by omega)).trans n0.symm, (z _ _ (by omega)).trans n0.symm⟩, ⟨(z _ _ (by omega)).trans n0.symm, (z _ _ (by omega)).trans n0.symm⟩, ⟨(hz _ (by omega)).trans (hz _ (by omega)).symm, (hz _ (by omega)).trans (hz _ (by omega)).symm, (hz _ (by omega)).trans (hz _ (by omega)).symm, (hz _ (by omega)).trans (hz _ (by omega)).symm⟩, ⟨by omega, fun k hk => absurd hk (Nat.not_lt_zero _)⟩, ⟨by omega, fun p hp => absurd hp (Nat.not_lt_zero _), fun p q _ hq => absurd hq (Nat.not_lt_zero _)⟩, by omega, by omega, fun i hi => absurd hi (Nat.not_lt_zero _)⟩
  refine ⟨⟨0, 0, 0, 0, tr 1 44 (by omega) (by omega)⟩, ⟨0, 0, 0, 0, tr 13 53 (by omega) (by omega)⟩, fun e he => ⟨0, 0, 0, ?_⟩, ⟨⟨(z _ _ (by omega)).trans (z _ _ (by omega)).symm, Or.inl (z _ _ (by omega))⟩, fun k i hk hi => Or.inl (hP k i hk hi)⟩⟩
  exact ⟨⟨(z _ _ (by omega)).trans n0.symm, (z _ _ (by omega)).trans n0.symm⟩, ⟨(z _ _ (by omega)).trans n0.symm, (z _ _ (by omega)).trans n0.symm⟩, ⟨(z _ _ (by omega)).trans n0.symm, (z _ _ (by omega)).trans n0.symm⟩, ⟨by omega, by omega, by omega⟩, fun j _ => (z _ _ (by omega)).trans (z _ _ (by omega)).symm, fun h => absurd h (by decide)⟩
