/-! THE SMALL MACHINE (MJ): places by number, whole numbers and references by functions; an operation is a function of a frame. -/
abbrev MH : Type := (Nat → Nat → Int32) × (Nat → Nat → Option Nat) × (Nat → Nat → Int64) × (Nat → Nat × Nat) × Nat × Nat × Nat
def mjI (h : MH) : Nat → Nat → Int32 := h.1
def mjP (h : MH) : Nat → Nat → Option Nat := h.2.1
def mjL (h : MH) : Nat → Nat → Int64 := h.2.2.1
/-- the kind of a place (0 .. 12 an object of that class, 13 ints, 14 lookers, 15 rows, 16 longs) and an array's length -/
def mjT (h : MH) : Nat → Nat × Nat := h.2.2.2.1
def mjN (h : MH) : Nat := h.2.2.2.2.1
def mjC (h : MH) : Nat := h.2.2.2.2.2.1
def mjS (h : MH) : Nat := h.2.2.2.2.2.2
def mjU {α : Type} (f : Nat → Nat → α) (k j : Nat) (v : α) : Nat → Nat → α := fun a b => if a = k then (if b = j then v else f a b) else f a b
def mjR {α : Type} (f : Nat → Nat → α) (k : Nat) (v : Nat → α) : Nat → Nat → α := fun a b => if a = k then v b else f a b
def mjsI (h : MH) (k j : Nat) (v : Int32) : MH := (mjU h.1 k j v, h.2)
def mjsP (h : MH) (k j : Nat) (v : Option Nat) : MH := (h.1, mjU h.2.1 k j v, h.2.2)
def mjsL (h : MH) (k j : Nat) (v : Int64) : MH := (h.1, h.2.1, mjU h.2.2.1 k j v, h.2.2.2)
def mjsR (h : MH) (k : Nat) (v : Nat → Int32) : MH := (mjR h.1 k v, h.2)
def mjNew (h : MH) (t n s : Nat) : MH := (mjR h.1 h.2.2.2.2.1 (fun _ => 0), mjR h.2.1 h.2.2.2.2.1 (fun _ => none), mjR h.2.2.1 h.2.2.2.2.1 (fun _ => 0), (fun a => if a = h.2.2.2.2.1 then (t, n) else h.2.2.2.1 a), h.2.2.2.2.1 + 1, h.2.2.2.2.2.1 + 1, h.2.2.2.2.2.2 + s)
abbrev MF : Type := List (Option Value) × List Value × MH
abbrev MO : Type := Option Value ⊕ Nat
abbrev MCall : Type := Nat → List Value → MH → Option (MO × MH)
abbrev MOp : Type := MCall → MF → Option ((Nat × MF) ⊕ (MO × MH))
def mjini (n : Nat) (as : List Value) : List (Option Value) := as.map some ++ List.replicate (n - as.length) none
def mjdn (d : Nat) (f : Nat → Nat → List Value → MH → Option (MO × MH)) : MCall := match d with
  | 0 => fun _ _ _ => none
  | d' + 1 => f d'
/-- the run: n steps at most, calls at most d deep -/
def mjX (P : Nat → Nat → MOp) (nl : Nat → Nat) : Nat → Nat → Nat → Nat → MF → Option (MO × MH)
  | 0, _, _, _, _ => none
  | n + 1, d, i, pc, F => match P i pc (mjdn d (fun d' j as h => mjX P nl n d' j 0 (mjini (nl j) as, [], h))) F with
    | none => none
    | some (.inl q) => mjX P nl n d i q.1 q.2
    | some (.inr r) => some r
def mjstuck : MOp := fun _ _ => none
/-- tables of operations: a tree over the place -/
def mjtk (pc k : Nat) (a b : MOp) : MOp := bif Nat.ble pc k then a else b
def mjte (pc k : Nat) (a : MOp) : MOp := bif Nat.beq pc k then a else mjstuck
/-! operations -/
def mjin (i : Int32) (n : Nat) : Bool := decide (0 ≤ i) && decide (i.toNatClampNeg < n)
def mjpush (v : Value) (nx : Nat) : MOp := fun _ F => some (.inl (nx, (F.1, v :: F.2.1, F.2.2)))
def mjiload (i nx : Nat) : MOp := fun _ F => match F.1[i]? with
  | some (some (.int x)) => some (.inl (nx, (F.1, .int x :: F.2.1, F.2.2)))
  | _ => none
def mjaload (i nx : Nat) : MOp := fun _ F => match F.1[i]? with
  | some (some (.ref x)) => some (.inl (nx, (F.1, .ref x :: F.2.1, F.2.2)))
  | some (some .null) => some (.inl (nx, (F.1, .null :: F.2.1, F.2.2)))
  | _ => none
def mjistore (i nx : Nat) : MOp := fun _ F => match F.2.1 with
  | .int x :: r => bif Nat.blt i F.1.length then some (.inl (nx, (F.1.set i (some (.int x)), r, F.2.2))) else none
  | _ => none
def mjastore (i nx : Nat) : MOp := fun _ F => match F.2.1 with
  | .ref x :: r => bif Nat.blt i F.1.length then some (.inl (nx, (F.1.set i (some (.ref x)), r, F.2.2))) else none
  | .null :: r => bif Nat.blt i F.1.length then some (.inl (nx, (F.1.set i (some .null), r, F.2.2))) else none
  | _ => none
def mjiinc (i : Nat) (c : Int32) (nx : Nat) : MOp := fun _ F => match F.1[i]? with
  | some (some (.int x)) => some (.inl (nx, (F.1.set i (some (.int (x + c))), F.2.1, F.2.2)))
  | _ => none
def mjbin (f : Int32 → Int32 → Int32) (nx : Nat) : MOp := fun _ F => match F.2.1 with
  | .int y :: .int x :: r => some (.inl (nx, (F.1, .int (f x y) :: r, F.2.2)))
  | _ => none
def mjdiv (f : Int32 → Int32 → Int32) (nx : Nat) : MOp := fun _ F => match F.2.1 with
  | .int y :: .int x :: r => bif decide (y = 0) then none else some (.inl (nx, (F.1, .int (f x y) :: r, F.2.2)))
  | _ => none
def mjun (f : Int32 → Int32) (nx : Nat) : MOp := fun _ F => match F.2.1 with
  | .int x :: r => some (.inl (nx, (F.1, .int (f x) :: r, F.2.2)))
  | _ => none
def mji2l (nx : Nat) : MOp := fun _ F => match F.2.1 with
  | .int x :: r => some (.inl (nx, (F.1, .long x.toInt64 :: r, F.2.2)))
  | _ => none
def mjlcmp (nx : Nat) : MOp := fun _ F => match F.2.1 with
  | .long y :: .long x :: r => some (.inl (nx, (F.1, .int (lg_cmp x y) :: r, F.2.2)))
  | _ => none
def mjif (g : Int32 → Bool) (tgt nx : Nat) : MOp := fun _ F => match F.2.1 with
  | .int x :: r => some (.inl (bif g x then tgt else nx, (F.1, r, F.2.2)))
  | _ => none
def mjcmp (g : Int32 → Int32 → Bool) (tgt nx : Nat) : MOp := fun _ F => match F.2.1 with
  | .int y :: .int x :: r => some (.inl (bif g x y then tgt else nx, (F.1, r, F.2.2)))
  | _ => none
def mjgoto (tgt : Nat) : MOp := fun _ F => some (.inl (tgt, F))
def mjdup (nx : Nat) : MOp := fun _ F => match F.2.1 with
  | v :: r => bif v.category == 1 then some (.inl (nx, (F.1, v :: v :: r, F.2.2))) else none
  | _ => none
def mjpop (nx : Nat) : MOp := fun _ F => match F.2.1 with
  | v :: r => bif v.category == 1 then some (.inl (nx, (F.1, r, F.2.2))) else none
  | _ => none
def mjdup2 (nx : Nat) : MOp := fun _ F => match F.2.1 with
  | v :: w :: r => bif v.category == 1 && w.category == 1 then some (.inl (nx, (F.1, v :: w :: v :: w :: r, F.2.2))) else none
  | _ => none
def mjifnull (tgt nx : Nat) : MOp := fun _ F => match F.2.1 with
  | .null :: r => some (.inl (tgt, (F.1, r, F.2.2)))
  | .ref _ :: r => some (.inl (nx, (F.1, r, F.2.2)))
  | _ => none
def mjsel (x : Int32) : List (Int32 × Nat) → Nat → Nat
  | [], d => d
  | q :: l, d => bif decide (x = q.1) then q.2 else mjsel x l d
def mjswitch (ps : List (Int32 × Nat)) (d : Nat) : MOp := fun _ F => match F.2.1 with
  | .int x :: r => some (.inl (mjsel x ps d, (F.1, r, F.2.2)))
  | _ => none
def mjgetI (cs : List Nat) (j nx : Nat) : MOp := fun _ F => match F.2.1 with
  | .ref k :: r => bif Nat.blt k (mjN F.2.2) && cs.contains (mjT F.2.2 k).1 then some (.inl (nx, (F.1, .int (mjI F.2.2 k j) :: r, F.2.2))) else none
  | _ => none
def mjgetP (cs : List Nat) (j nx : Nat) : MOp := fun _ F => match F.2.1 with
  | .ref k :: r => bif Nat.blt k (mjN F.2.2) && cs.contains (mjT F.2.2 k).1 then some (.inl (nx, (F.1, va_rf (mjP F.2.2 k j) :: r, F.2.2))) else none
  | _ => none
def mjputI (cs : List Nat) (j nx : Nat) : MOp := fun _ F => match F.2.1 with
  | .int x :: .ref k :: r => bif Nat.blt k (mjN F.2.2) && cs.contains (mjT F.2.2 k).1 then some (.inl (nx, (F.1, r, mjsI F.2.2 k j x))) else none
  | _ => none
def mjputZ (cs : List Nat) (j nx : Nat) : MOp := fun _ F => match F.2.1 with
  | .int x :: .ref k :: r => bif (Nat.blt k (mjN F.2.2) && cs.contains (mjT F.2.2 k).1) && (decide (x = 0) || decide (x = 1)) then some (.inl (nx, (F.1, r, mjsI F.2.2 k j x))) else none
  | _ => none
def mjputP (cs : List Nat) (j nx : Nat) : MOp := fun _ F => match F.2.1 with
  | .ref q :: .ref k :: r => bif Nat.blt k (mjN F.2.2) && cs.contains (mjT F.2.2 k).1 then some (.inl (nx, (F.1, r, mjsP F.2.2 k j (some q)))) else none
  | .null :: .ref k :: r => bif Nat.blt k (mjN F.2.2) && cs.contains (mjT F.2.2 k).1 then some (.inl (nx, (F.1, r, mjsP F.2.2 k j none))) else none
  | _ => none
def mjiald (nx : Nat) : MOp := fun _ F => match F.2.1 with
  | .int i :: .ref k :: r => bif (Nat.blt k (mjN F.2.2) && (mjT F.2.2 k).1 == 13) && mjin i (mjT F.2.2 k).2 then some (.inl (nx, (F.1, .int (mjI F.2.2 k i.toNatClampNeg) :: r, F.2.2))) else none
  | _ => none
def mjiast (nx : Nat) : MOp := fun _ F => match F.2.1 with
  | .int x :: .int i :: .ref k :: r => bif (Nat.blt k (mjN F.2.2) && (mjT F.2.2 k).1 == 13) && mjin i (mjT F.2.2 k).2 then some (.inl (nx, (F.1, r, mjsI F.2.2 k i.toNatClampNeg x))) else none
  | _ => none
def mjlald (nx : Nat) : MOp := fun _ F => match F.2.1 with
  | .int i :: .ref k :: r => bif (Nat.blt k (mjN F.2.2) && (mjT F.2.2 k).1 == 16) && mjin i (mjT F.2.2 k).2 then some (.inl (nx, (F.1, .long (mjL F.2.2 k i.toNatClampNeg) :: r, F.2.2))) else none
  | _ => none
def mjlast (nx : Nat) : MOp := fun _ F => match F.2.1 with
  | .long x :: .int i :: .ref k :: r => bif (Nat.blt k (mjN F.2.2) && (mjT F.2.2 k).1 == 16) && mjin i (mjT F.2.2 k).2 then some (.inl (nx, (F.1, r, mjsL F.2.2 k i.toNatClampNeg x))) else none
  | _ => none
def mjaald (t nx : Nat) : MOp := fun _ F => match F.2.1 with
  | .int i :: .ref k :: r => bif (Nat.blt k (mjN F.2.2) && (mjT F.2.2 k).1 == t) && mjin i (mjT F.2.2 k).2 then some (.inl (nx, (F.1, va_rf (mjP F.2.2 k i.toNatClampNeg) :: r, F.2.2))) else none
  | _ => none
def mjaast (t : Nat) (cs : List Nat) (nx : Nat) : MOp := fun _ F => match F.2.1 with
  | .ref q :: .int i :: .ref k :: r => bif ((Nat.blt k (mjN F.2.2) && (mjT F.2.2 k).1 == t) && mjin i (mjT F.2.2 k).2) && (Nat.blt q (mjN F.2.2) && cs.contains (mjT F.2.2 q).1) then some (.inl (nx, (F.1, r, mjsP F.2.2 k i.toNatClampNeg (some q)))) else none
  | .null :: .int i :: .ref k :: r => bif (Nat.blt k (mjN F.2.2) && (mjT F.2.2 k).1 == t) && mjin i (mjT F.2.2 k).2 then some (.inl (nx, (F.1, r, mjsP F.2.2 k i.toNatClampNeg none))) else none
  | _ => none
def mjalen (nx : Nat) : MOp := fun _ F => match F.2.1 with
  | .ref k :: r => bif Nat.blt k (mjN F.2.2) && Nat.ble 13 (mjT F.2.2 k).1 then some (.inl (nx, (F.1, .int (Int32.ofNat (mjT F.2.2 k).2) :: r, F.2.2))) else none
  | _ => none
def mjnew (c s nx : Nat) : MOp := fun _ F => bif Nat.blt (mjN F.2.2) 900000 then some (.inl (nx, (F.1, .ref (mjN F.2.2) :: F.2.1, mjNew F.2.2 c 0 s))) else none
def mjnewa (t : Nat) (n : Int32) (m nx : Nat) : MOp := fun _ F => match F.2.1 with
  | .int x :: r => bif Nat.blt (mjN F.2.2) 900000 && decide (x = n) then some (.inl (nx, (F.1, .ref (mjN F.2.2) :: r, mjNew F.2.2 t m m))) else none
  | _ => none
def mjcopy (nx : Nat) : MOp := fun _ F => match F.2.1 with
  | .int n :: .int dp :: .ref k1 :: .int sp :: .ref k0 :: r => bif ((Nat.blt k0 (mjN F.2.2) && (mjT F.2.2 k0).1 == 13) && (Nat.blt k1 (mjN F.2.2) && (mjT F.2.2 k1).1 == 13)) && (((decide (0 ≤ sp) && decide (0 ≤ dp)) && decide (0 ≤ n)) && (Nat.ble (sp.toNatClampNeg + n.toNatClampNeg) (mjT F.2.2 k0).2 && Nat.ble (dp.toNatClampNeg + n.toNatClampNeg) (mjT F.2.2 k1).2)) && Nat.ble (r.map fun v => v.category).sum 8 then
      some (.inl (nx, (F.1, r, mjsR F.2.2 k1 (va_cpy (mjI F.2.2 k0) (mjI F.2.2 k1) sp.toNatClampNeg dp.toNatClampNeg n.toNatClampNeg)))) else none
  | _ => none
def mjmath (f : Int32 → Int32 → Int32) (nx : Nat) : MOp := fun _ F => match F.2.1 with
  | .int y :: .int x :: r => bif Nat.ble (r.map fun v => v.category).sum 8 then some (.inl (nx, (F.1, .int (f x y) :: r, F.2.2))) else none
  | _ => none
def mjobj (nx : Nat) : MOp := fun _ F => match F.2.1 with
  | .ref _ :: r => bif Nat.ble (r.map fun v => v.category).sum 8 then some (.inl (nx, (F.1, r, F.2.2))) else none
  | _ => none
/-- what a call takes off the stack: n places of one word each -/
def mjg (n : Nat) (st : List Value) : Bool := Nat.ble n st.length && ((st.take n).all (fun v => v.category == 1) && Nat.ble ((st.drop n).map fun v => v.category).sum 8)
def mjcont (F : MF) (n nx : Nat) (q : Option (MO × MH)) : Option ((Nat × MF) ⊕ (MO × MH)) := match q with
  | some (.inl o, h') => some (.inl (nx, (F.1, o.toList ++ F.2.1.drop n, h')))
  | _ => none
/-- a static call -/
def mjcallS (j n nx : Nat) : MOp := fun call F => bif mjg n F.2.1 then mjcont F n nx (call j (F.2.1.take n).reverse F.2.2) else none
/-- a call on an object: which method, by its class -/
def mjcallV (sel : Nat → Option Nat) (n nx : Nat) : MOp := fun call F => bif mjg n F.2.1 then (match (F.2.1.take n).reverse with
  | .ref k :: _ => bif Nat.blt k (mjN F.2.2) then (match sel (mjT F.2.2 k).1 with
    | some j => mjcont F n nx (call j (F.2.1.take n).reverse F.2.2)
    | none => none) else none
  | _ => none) else none
def mjiret : MOp := fun _ F => match F.2.1 with
  | [.int x] => some (.inr (.inl (some (.int x)), F.2.2))
  | _ => none
def mjzret : MOp := fun _ F => match F.2.1 with
  | [.int x] => bif decide (x = 0) || decide (x = 1) then some (.inr (.inl (some (.int x)), F.2.2)) else none
  | _ => none
def mjcret : MOp := fun _ F => match F.2.1 with
  | [.int x] => bif decide ((x.toUInt32 % 65536).toInt32 = x) then some (.inr (.inl (some (.int x)), F.2.2)) else none
  | _ => none
def mjlret : MOp := fun _ F => match F.2.1 with
  | [.long x] => some (.inr (.inl (some (.long x)), F.2.2))
  | _ => none
def mjaret : MOp := fun _ F => match F.2.1 with
  | [.ref x] => some (.inr (.inl (some (.ref x)), F.2.2))
  | [.null] => some (.inr (.inl (some .null), F.2.2))
  | _ => none
def mjvret : MOp := fun _ F => match F.2.1 with
  | [] => some (.inr (.inl none, F.2.2))
  | _ => none
/-! texts: a literal i is the place 1000000 + i, its bytes 1100000 + i; the script is the place 2000000 -/
def mjtexts : List (Nat × String × List Int32) := [(335, "3 2 1;", [51, 32, 50, 32, 49, 59]), (337, "11+2 3;", [49, 49, 43, 50, 32, 51, 59]), (339, "1;", [49, 59]), (341, "3;", [51, 59]), (343, "", [])]
def mjlens : List Nat := mjtexts.map (fun q => q.2.2.length)
def mjbyts : List (List Int32) := mjtexts.map (fun q => q.2.2)
def mjtv (nx : Nat) : MOp := fun _ F => match F.2.1 with
  | .ref k :: r => bif Nat.ble 1000000 k && Nat.blt k 1000005 then some (.inl (nx, (F.1, .ref (k + 100000) :: r, F.2.2))) else none
  | _ => none
def mjtc (nx : Nat) : MOp := fun _ F => match F.2.1 with
  | .ref k :: r => bif Nat.ble 1000000 k && Nat.blt k 1000005 then some (.inl (nx, (F.1, .int 0 :: r, F.2.2))) else none
  | _ => none
def mjtlen (nx : Nat) : MOp := fun _ F => match F.2.1 with
  | .ref k :: r => bif Nat.ble 1100000 k && Nat.blt k 1100005 then some (.inl (nx, (F.1, .int (Int32.ofNat (mjlens.getD (k - 1100000) 0)) :: r, F.2.2))) else none
  | _ => none
def mjtald (nx : Nat) : MOp := fun _ F => match F.2.1 with
  | .int i :: .ref k :: r => bif (Nat.ble 1100000 k && Nat.blt k 1100005) && mjin i (mjlens.getD (k - 1100000) 0) then some (.inl (nx, (F.1, .int ((mjbyts.getD (k - 1100000) []).getD i.toNatClampNeg 0) :: r, F.2.2))) else none
  | _ => none
def mjsld (nx : Nat) : MOp := fun _ F => match F.2.1 with
  | .int i :: .ref k :: r => bif Nat.beq k 2000000 && mjin i (mjT F.2.2 k).2 then some (.inl (nx, (F.1, .int (mjI F.2.2 k i.toNatClampNeg) :: r, F.2.2))) else none
  | _ => none
def mjslen (nx : Nat) : MOp := fun _ F => match F.2.1 with
  | .ref k :: r => bif Nat.beq k 2000000 then some (.inl (nx, (F.1, .int (Int32.ofNat (mjT F.2.2 k).2) :: r, F.2.2))) else none
  | _ => none
/-- a call on a text -/
def mjcallT (j n nx : Nat) : MOp := fun call F => bif mjg n F.2.1 then (match (F.2.1.take n).reverse with
  | .ref k :: _ => bif Nat.ble 1000000 k && Nat.blt k 1000005 then mjcont F n nx (call j (F.2.1.take n).reverse F.2.2) else none
  | _ => none) else none
def mjbret : MOp := fun _ F => match F.2.1 with
  | [.int x] => bif decide (x.toInt8.toInt32 = x) then some (.inr (.inl (some (.int x)), F.2.2)) else none
  | _ => none
