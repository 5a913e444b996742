/-! the law's script, read by what is known of it -/
def mjsldK (L : Nat) (xs : Nat → Int32) (nx : Nat) : MOp := fun _ F => match F.2.1 with
  | .int i :: .ref k :: r => bif Nat.beq k 2000000 && mjin i L then some (.inl (nx, (F.1, .int (xs i.toNatClampNeg) :: r, F.2.2))) else none
  | _ => none
def mjslenK (L : Nat) (nx : Nat) : MOp := fun _ F => match F.2.1 with
  | .ref k :: r => bif Nat.beq k 2000000 then some (.inl (nx, (F.1, .int (Int32.ofNat L) :: r, F.2.2))) else none
  | _ => none
section MJ9
variable {K : MK} {l : Launch} {G : List Cond} {M : MT} {y : MethodName} {own : String} {cc : ByteArray} {nL : Nat} {rt : Option FieldType} {pc : Nat}
theorem mjs_sldK {L : Nat} {xs : Nat → Int32} (hK : K.2.2.2.2.2 = (L, xs)) (hd : decode cc pc = .ok (.iaload, 1)) : mjOk K l G M y own cc nL rt pc (mjsldK L xs (pc + 1)) := by
  have hK1 : K.2.2.2.2.2.1 = L := congrArg Prod.fst hK
  have hK2 : K.2.2.2.2.2.2 = xs := congrArg Prod.snd hK
  refine mjOk_same fun call F res hres => ?_
  obtain ⟨al, st, h⟩ := F
  unfold mjsldK at hres
  dsimp only at hres
  split at hres
  · rename_i j q r
    cases hg : (Nat.beq q 2000000 && mjin j L)
    · rw [hg] at hres
      cases hres
    rw [hg] at hres
    cases hres
    rw [Bool.and_eq_true] at hg
    have e9 := Nat.eq_of_beq_eq_true hg.1
    subst e9
    refine ⟨_, _, rfl, rfl, fun d p e R s m args below meth c cx Q cells slots H locs ls ad hW hF hS hcl hsl k => ?_⟩
    obtain ⟨hx, hb, hml, hr, hts, hown, hlk, hnm, hen, -⟩ := cx
    have k9 := k ls (mjFr_st hF (mjsc_i (mjsc_t (mjsc_t hF.2.1))))
    have e0 : ad 2000000 = mkS K 2000000 := hW.2.2.2.2.1 _ (by omega)
    have hin : vp_in j K.2.2.2.2.2.1 := by
      have h2 := hg.2
      rw [← hK1] at h2
      simp only [mjin, Bool.and_eq_true, decide_eq_true_eq] at h2
      rintro (z | z)
      · exact absurd h2.1 (Int32.not_le.mpr z)
      · omega
    rw [← hK2] at k9
    show W p l e R s m args below meth c H locs cells slots Q (F0 m pc ls (.int j :: .ref (ad 2000000) :: r.map (mjrn (mkZ K) ad)))
    rw [e0]
    exact va_sld hx hb hen.2.2.2.2.2.2.1 hen.2.2.2.2.2.2.2.1 hen.2.2.2.2.2.2.2.2 hS hin hd k9
  · cases hres
theorem mjs_slenK {L : Nat} {xs : Nat → Int32} (hK : K.2.2.2.2.2 = (L, xs)) (hd : decode cc pc = .ok (.arraylength, 1)) : mjOk K l G M y own cc nL rt pc (mjslenK L (pc + 1)) := by
  have hK1 : K.2.2.2.2.2.1 = L := congrArg Prod.fst hK
  refine mjOk_same fun call F res hres => ?_
  obtain ⟨al, st, h⟩ := F
  unfold mjslenK at hres
  dsimp only at hres
  split at hres
  · rename_i q r
    cases hg : Nat.beq q 2000000
    · rw [hg] at hres
      cases hres
    rw [hg] at hres
    cases hres
    have e9 := Nat.eq_of_beq_eq_true hg
    subst e9
    refine ⟨_, _, rfl, rfl, fun d p e R s m args below meth c cx Q cells slots H locs ls ad hW hF hS hcl hsl k => ?_⟩
    obtain ⟨hx, hb, hml, hr, hts, hown, hlk, hnm, hen, -⟩ := cx
    have k9 := k ls (mjFr_st hF (mjsc_i (mjsc_t hF.2.1)))
    have e0 : ad 2000000 = mkS K 2000000 := hW.2.2.2.2.1 _ (by omega)
    rw [← hK1] at k9
    show W p l e R s m args below meth c H locs cells slots Q (F0 m pc ls (.ref (ad 2000000) :: r.map (mjrn (mkZ K) ad)))
    rw [e0]
    exact va_slen hx hb hen.2.2.2.2.2.2.1 hen.2.2.2.2.2.2.2.1 hen.2.2.2.2.2.2.2.2 hS hd k9
  · cases hres
end MJ9
/-! an operation that is sound at one depth of calls -/
def mjOkD (K : MK) (l : Launch) (G : List Cond) (M : MT) (d : Nat) (y : MethodName) (own : String) (cc : ByteArray) (nL : Nat) (rt : Option FieldType) (pc : Nat) (op : MOp) : Prop :=
  ∀ (call : MCall), mjCall K l G M d call → ∀ (F : MF) (res : (Nat × MF) ⊕ (MO × MH)), op call F = some res →
    mjmono F.2.2 (mjrh res) ∧
    ∀ (p : Program) (e : Env) (R : Room) (s : State) (m : MethodId) (args : Array Value) (below : List Frame) (meth : Method) (c : Code), mjCx K G y own cc nL rt d p R s m args meth c →
    ∀ (Q : State → Prop) (c0 s0 cells slots : Nat) (H : Heap) (locs : List Loc) (ls : Array Slot) (ad : Nat → Nat),
      mjWd K ad F.2.2 H → mjFr K ad nL F ls → va_S (mkA K) s.heap H locs → c0 + cells = mjC F.2.2 → s0 + slots = mjS F.2.2 → mjC (mjrh res) ≤ c0 + R.cells → mjS (mjrh res) ≤ s0 + R.slots →
      (∀ (pc' : Nat) (F' : MF), res = .inl (pc', F') → ∀ (ad' : Nat → Nat) (H' : Heap) (locs' : List Loc) (ls' : Array Slot) (cells' slots' : Nat), mjExt ad ad' (mjN F.2.2) → mjWd K ad' F'.2.2 H' → mjFr K ad' nL F' ls' → va_S (mkA K) s.heap H' locs' → c0 + cells' = mjC F'.2.2 → s0 + slots' = mjS F'.2.2 → W p l e R s m args below meth c H' locs' cells' slots' Q (F0 m pc' ls' (F'.2.1.map (mjrn (mkZ K) ad')))) →
      (∀ (o : Option Value) (h' : MH), res = .inr (.inl o, h') → h' = F.2.2 → F.2.1 = o.toList → ∀ (ins : Instr), mjri rt ins o → decode cc pc = .ok (ins, 1) → W p l e R s m args below meth c H locs cells slots Q (F0 m pc ls (F.2.1.map (mjrn (mkZ K) ad)))) →
      W p l e R s m args below meth c H locs cells slots Q (F0 m pc ls (F.2.1.map (mjrn (mkZ K) ad)))
theorem mjOk.D {K : MK} {l : Launch} {G : List Cond} {M : MT} {d : Nat} {y : MethodName} {own : String} {cc : ByteArray} {nL : Nat} {rt : Option FieldType} {pc : Nat} {op : MOp} (h : mjOk K l G M y own cc nL rt pc op) : mjOkD K l G M d y own cc nL rt pc op := h d
theorem mjOkD_tk {K : MK} {l : Launch} {G : List Cond} {M : MT} {d : Nat} {y : MethodName} {own : String} {cc : ByteArray} {nL : Nat} {rt : Option FieldType} {a b : Nat → MOp} (k : Nat) (h1 : ∀ pc, mjOkD K l G M d y own cc nL rt pc (a pc)) (h2 : ∀ pc, mjOkD K l G M d y own cc nL rt pc (b pc)) : ∀ pc, mjOkD K l G M d y own cc nL rt pc (mjtk pc k (a pc) (b pc)) := by
  intro pc
  unfold mjtk
  cases Nat.ble pc k
  · exact h2 pc
  · exact h1 pc
theorem mjOkD_te {K : MK} {l : Launch} {G : List Cond} {M : MT} {d : Nat} {y : MethodName} {own : String} {cc : ByteArray} {nL : Nat} {rt : Option FieldType} {a : MOp} (k : Nat) (h1 : mjOkD K l G M d y own cc nL rt k a) : ∀ pc, mjOkD K l G M d y own cc nL rt pc (mjte pc k a) := by
  intro pc
  unfold mjte
  cases h : Nat.beq pc k
  · exact mjOk.D mjOk_stuck
  · rw [Nat.eq_of_beq_eq_true h]
    exact h1
