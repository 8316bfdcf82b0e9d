/-! A pure machine over places: a value is an int (read modulo 2^32), a place or null, a long, a float, a double, a String constant; a cell is a row of numbers, an object, or a row of places. eStep does one instruction; eRun so many; ev is what they come to. -/
abbrev eV : Type := Int ⊕ (Option Nat ⊕ (Int ⊕ (UInt32 ⊕ (UInt64 ⊕ Nat))))
abbrev eC : Type := (Nat × (Nat × (Nat → Int))) ⊕ ((Nat × List eV) ⊕ (Nat × (Nat → Option Nat)))
abbrev eW : Type := List eC × (Nat × Nat)
abbrev eRes : Type := Option ((Option eV ⊕ Nat) × eW)
abbrev eL : Type := List (Option eV)
abbrev eFn : Type := Nat → Nat → eL → List eV → eW → eRes
abbrev eI (x : Int) : eV := .inl x
abbrev eR (k : Nat) : eV := .inr (.inl (some k))
abbrev eNul : eV := .inr (.inl none)
abbrev eJ (x : Int) : eV := .inr (.inr (.inl x))
abbrev eFl (x : UInt32) : eV := .inr (.inr (.inr (.inl x)))
abbrev eDb (x : UInt64) : eV := .inr (.inr (.inr (.inr (.inl x))))
abbrev eSt (k : Nat) : eV := .inr (.inr (.inr (.inr (.inr k))))
abbrev eA (t n : Nat) (f : Nat → Int) : eC := .inl (t, (n, f))
abbrev eO (c : Nat) (fs : List eV) : eC := .inr (.inl (c, fs))
abbrev eQ (n : Nat) (f : Nat → Option Nat) : eC := .inr (.inr (n, f))
def wr (x : Int) : Int := Int.bmod x 4294967296
def wr64 (x : Int) : Int := Int.bmod x 18446744073709551616
def bAnd (a b : Int) : Int := (Int32.ofInt a &&& Int32.ofInt b).toInt
def bOr (a b : Int) : Int := (Int32.ofInt a ||| Int32.ofInt b).toInt
def bXor (a b : Int) : Int := (Int32.ofInt a ^^^ Int32.ofInt b).toInt
def bShl (a b : Int) : Int := (Int32.ofInt a <<< (Int32.ofInt b &&& 31)).toInt
def bShr (a b : Int) : Int := (Int32.ofInt a >>> (Int32.ofInt b &&& 31)).toInt
def bUshr (a b : Int) : Int := ((Int32.ofInt a).toUInt32 >>> ((Int32.ofInt b).toUInt32 &&& Int32.toUInt32 31)).toInt32.toInt
def bDiv (a b : Int) : Int := (Int32.ofInt a / Int32.ofInt b).toInt
def bRem (a b : Int) : Int := (Int32.ofInt a - Int32.ofInt a / Int32.ofInt b * Int32.ofInt b).toInt
def bI2b (a : Int) : Int := (Int32.ofInt a).toInt8.toInt32.toInt
def bI2f (a : Int) : UInt32 := FP.i2f (Int32.ofInt a)
def bI2d (a : Int) : UInt64 := FP.i2d (Int32.ofInt a)
def bDcmp (x y : UInt64) (op : CmpOp) : Int := (Op.cmpValue (FP.dcmp x y) op).toInt
def bLcmp (x y : Int) : Int := if wr64 x < wr64 y then -1 else if wr64 x = wr64 y then 0 else 1
def eNth {β : Type} : List β → Nat → Option β
  | [], _ => none
  | x :: _, 0 => some x
  | _ :: l, n + 1 => eNth l n
def eSet {β : Type} : List β → Nat → β → List β
  | [], _, _ => []
  | _ :: l, 0, v => v :: l
  | x :: l, n + 1, v => x :: eSet l n v
def ePut : eL → Nat → Option eV → eL
  | [], 0, v => [v]
  | [], n + 1, v => none :: ePut [] n v
  | _ :: l, 0, v => v :: l
  | x :: l, n + 1, v => x :: ePut l n v
def eTake {β : Type} : Nat → List β → List β
  | 0, _ => []
  | _ + 1, [] => []
  | n + 1, x :: l => x :: eTake n l
def eDrop {β : Type} : Nat → List β → List β
  | 0, l => l
  | _ + 1, [] => []
  | n + 1, _ :: l => eDrop n l
def eLen {β : Type} : List β → Nat
  | [] => 0
  | _ :: l => eLen l + 1
def eUp {β : Type} (f : Nat → β) (k : Nat) (v : β) : Nat → β := fun j => if j = k then v else f j
def eCpy (f g : Nat → Int) (sp dp n : Nat) : Nat → Int := fun k => if dp ≤ k ∧ k < dp + n then f (sp + (k - dp)) else g k
def eCat : eV → Nat
  | .inl _ => 1
  | .inr (.inl _) => 1
  | .inr (.inr (.inl _)) => 2
  | .inr (.inr (.inr (.inl _))) => 1
  | .inr (.inr (.inr (.inr (.inl _)))) => 2
  | .inr (.inr (.inr (.inr (.inr _)))) => 1
def eCats : List eV → Nat
  | [] => 0
  | v :: l => eCat v + eCats l
def eAll1 : List eV → Bool
  | [] => true
  | v :: l => Nat.beq (eCat v) 1 && eAll1 l
/-- no long or double right below i -/
def eBelow (ls : eL) (i : Nat) : Bool := match i with
  | 0 => true
  | k + 1 => match eNth ls k with
    | some (some v) => Nat.beq (eCat v) 1
    | _ => true
def eIf (c : ClassFile.Cond) (x y : Int) (t e : eRes) : eRes := match c with
  | .eq => if wr x = wr y then t else e
  | .ne => if wr x = wr y then e else t
  | .lt => if wr x < wr y then t else e
  | .ge => if wr x < wr y then e else t
  | .gt => if wr y < wr x then t else e
  | .le => if wr y < wr x then e else t
def eLoad (J : eFn) (M pc len i : Nat) (ls : eL) (st : List eV) (w : eW) : eRes := match eNth ls i with
  | some (some v) => J M (pc + len) ls (v :: st) w
  | _ => none
def eStore (J : eFn) (M pc len i : Nat) (ls : eL) (st : List eV) (w : eW) : eRes := match st with
  | v :: st => bif Nat.beq (eCat v) 1 && eBelow ls i then J M (pc + len) (ePut ls i (some v)) st w else none
  | _ => none
def eStore2 (J : eFn) (M pc len i : Nat) (ls : eL) (st : List eV) (w : eW) : eRes := match st with
  | v :: st => bif Nat.beq (eCat v) 2 && eBelow ls i then J M (pc + len) (ePut (ePut ls i (some v)) (i + 1) none) st w else none
  | _ => none
def eBin (J : eFn) (M pc : Nat) (ls : eL) (st : List eV) (w : eW) (f : Int → Int → Int) : eRes := match st with
  | .inl b :: .inl a :: st => J M (pc + 1) ls (.inl (f a b) :: st) w
  | _ => none
def eALd (J : eFn) (M pc : Nat) (ls : eL) (st : List eV) (w : eW) (ok : Nat → Bool) (mk : Int → eV) : eRes := match st with
  | .inl i :: .inr (.inl (some r)) :: st => match eNth w.1 r with
    | some (.inl (t, (n, f))) => bif ok t then (if 0 ≤ wr i ∧ wr i < n then J M (pc + 1) ls (mk (f (wr i).toNat) :: st) w else none) else none
    | _ => none
  | _ => none
def eASt (J : eFn) (M pc : Nat) (ls : eL) (i v : Int) (r : Nat) (st : List eV) (w : eW) (ok : Nat → Bool) : eRes := match eNth w.1 r with
  | some (.inl (t, (n, f))) => bif ok t then (if 0 ≤ wr i ∧ wr i < n then J M (pc + 1) ls st (eSet w.1 r (.inl (t, (n, eUp f (wr i).toNat v))), w.2) else none) else none
  | _ => none
/-- what comes back of a call: a return goes on, a throw goes on to the caller or to the row that catches it -/
def eBack (A : eFn) (M pc : Nat) (ls : eL) (st : List eV) (catch? : Nat → Option (Option (Nat × Nat))) (r : eRes) : eRes := match r with
  | some (.inl none, w) => A M (pc + 3) ls st w
  | some (.inl (some v), w) => A M (pc + 3) ls (v :: st) w
  | some (.inr E, w) => match catch? E with
    | none => some (.inr E, w)
    | some none => none
    | some (some (k, pc2)) => A M pc2 (ePut ls k none) [] w
  | none => none
def eTR : Nat → List eV → List eV → Option (List eV × List eV)
  | 0, st, acc => some (acc, st)
  | _ + 1, [], _ => none
  | n + 1, x :: st, acc => eTR n st (x :: acc)
def eArgs : List eV → eL
  | [] => []
  | v :: l => some v :: eArgs l
/-- what the tables tell: M's depth, what it answers (0 nothing, 1 int, 2 boolean, 3 reference, 4 float, 5 double), its class -/
def eCallS (C A : eFn) (dM dy : Nat) (M pc y n : Nat) (ls : eL) (st : List eV) (w : eW) (cat : Nat → Option (Option (Nat × Nat))) : eRes := match eTR n st [] with
  | some (as, rest) => bif eAll1 as && (Nat.ble (eCats rest) 8 && Nat.blt dy dM) then eBack A M pc ls rest cat (C y 0 (eArgs as) [] w) else none
  | none => none
def eCallV (C A : eFn) (dM dy cy : Nat) (M pc y n : Nat) (ls : eL) (st : List eV) (w : eW) (cat : Nat → Option (Option (Nat × Nat))) : eRes := match eTR n st [] with
  | some (.inr (.inl (some r)) :: as, rest) => match eNth w.1 r with
    | some (.inr (.inl (c, _))) => bif Nat.beq c cy && (eAll1 as && (Nat.ble (eCats rest) 8 && Nat.blt dy dM)) then eBack A M pc ls rest cat (C y 0 (eArgs (.inr (.inl (some r)) :: as)) [] w) else none
    | _ => none
  | _ => none
def eOkI (t : Nat) : Bool := Nat.beq t 0 || Nat.beq t 9
def eOkB (t : Nat) : Bool := Nat.beq t 1 || Nat.beq t 2
def eOkJ (t : Nat) : Bool := Nat.beq t 3
def eOk0 (t : Nat) : Bool := Nat.beq t 0
def eOk2 (t : Nat) : Bool := Nat.beq t 2
def eOk1 (t : Nat) : Bool := Nat.beq t 1
/-- a row of booleans -/
def eTg (w : eW) (r : Nat) : Bool := match eNth w.1 r with
  | some (.inl (t, (_, _))) => Nat.beq t 1
  | _ => false
/-- what a row of booleans keeps of an int -/
def bNz (v : Int) : Int := if wr v = 0 ∨ wr v = 1 then v else bAnd v 1
def eGet (J : eFn) (M pc a b : Nat) (ls : eL) (st : List eV) (w : eW) : eRes := match st with
  | .inr (.inl (some r)) :: st => match eNth w.1 r with
    | some (.inr (.inl (c, fs))) => bif Nat.beq c a then (match eNth fs b with
      | some v => J M (pc + 3) ls (v :: st) w
      | none => none) else none
    | _ => none
  | _ => none
def eKind (isRef : Bool) (v : eV) : Bool := match v with
  | .inl _ => !isRef
  | .inr (.inl _) => isRef
  | _ => false
def ePutf (J : eFn) (M pc a b : Nat) (isRef : Bool) (ls : eL) (st : List eV) (w : eW) : eRes := match st with
  | v :: .inr (.inl (some r)) :: st => match eNth w.1 r with
    | some (.inr (.inl (c, fs))) => bif Nat.beq c a && (Nat.blt b (eLen fs) && eKind isRef v) then J M (pc + 3) ls st (eSet w.1 r (.inr (.inl (c, eSet fs b v))), w.2) else none
    | _ => none
  | _ => none
def eNewA (J : eFn) (M pc len t : Nat) (ls : eL) (st : List eV) (w : eW) : eRes := match st with
  | .inl n :: st => if 0 ≤ wr n ∧ wr n ≤ 100000 then J M (pc + len) ls (.inr (.inl (some (eLen w.1))) :: st) (w.1 ++ [.inl (t, ((wr n).toNat, fun _ => 0))], (w.2.1 + 1, w.2.2 + (wr n).toNat)) else none
  | _ => none
def eNewQ (J : eFn) (M pc : Nat) (ls : eL) (st : List eV) (w : eW) : eRes := match st with
  | .inl n :: st => if 0 ≤ wr n ∧ wr n ≤ 100000 then J M (pc + 3) ls (.inr (.inl (some (eLen w.1))) :: st) (w.1 ++ [.inr (.inr ((wr n).toNat, fun _ => none))], (w.2.1 + 1, w.2.2 + (wr n).toNat)) else none
  | _ => none
def eQLd (J : eFn) (M pc : Nat) (ls : eL) (st : List eV) (w : eW) : eRes := match st with
  | .inl i :: .inr (.inl (some r)) :: st => match eNth w.1 r with
    | some (.inr (.inr (n, f))) => if 0 ≤ wr i ∧ wr i < n then J M (pc + 1) ls (.inr (.inl (f (wr i).toNat)) :: st) w else none
    | _ => none
  | _ => none
/-- a row of places takes an object of the class cy -/
def eQSt (J : eFn) (cy : Nat) (M pc : Nat) (ls : eL) (st : List eV) (w : eW) : eRes := match st with
  | .inr (.inl (some v)) :: .inl i :: .inr (.inl (some r)) :: st => match eNth w.1 r with
    | some (.inr (.inr (n, f))) => match eNth w.1 v with
      | some (.inr (.inl (c, _))) => bif Nat.beq c cy then (if 0 ≤ wr i ∧ wr i < n then J M (pc + 1) ls st (eSet w.1 r (.inr (.inr (n, eUp f (wr i).toNat (some v)))), w.2) else none) else none
      | _ => none
    | _ => none
  | _ => none
def eCopy (J : eFn) (M pc : Nat) (ls : eL) (st : List eV) (w : eW) : eRes := match st with
  | .inl n :: .inl dp :: .inr (.inl (some r1)) :: .inl sp :: .inr (.inl (some r0)) :: st => match eNth w.1 r0 with
    | some (.inl (t0, (n0, f))) => match eNth w.1 r1 with
      | some (.inl (t1, (n1, g))) => bif Nat.beq t0 t1 && (Nat.beq t0 0 || Nat.beq t0 1) && Nat.ble (eCats st) 8 then
          (if 0 ≤ wr sp ∧ 0 ≤ wr dp ∧ 0 ≤ wr n ∧ wr sp + wr n ≤ n0 ∧ wr dp + wr n ≤ n1 then
            J M (pc + 3) ls st (eSet w.1 r1 (.inl (t1, (n1, eCpy f g (wr sp).toNat (wr dp).toNat (wr n).toNat))), w.2) else none) else none
      | _ => none
    | _ => none
  | _ => none
