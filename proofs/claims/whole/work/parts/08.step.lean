def eKn : eV → Nat
  | .inl _ => 0
  | .inr (.inl _) => 1
  | .inr (.inr (.inl _)) => 2
  | .inr (.inr (.inr (.inl _))) => 3
  | .inr (.inr (.inr (.inr (.inl _)))) => 4
  | .inr (.inr (.inr (.inr (.inr _)))) => 1
def eLoadK (J : eFn) (k M pc len i : Nat) (ls : eL) (st : List eV) (w : eW) : eRes := match eNth ls i with
  | some (some v) => bif Nat.beq (eKn v) k then J M (pc + len) ls (v :: st) w else none
  | _ => none
def eStoreK (J : eFn) (k M pc len i : Nat) (ls : eL) (st : List eV) (w : eW) : eRes := match st with
  | v :: st => bif Nat.beq (eKn v) k && eBelow ls i then J M (pc + len) (ePut ls i (some v)) st w else none
  | _ => none
def eStoreD (J : eFn) (M pc len i : Nat) (ls : eL) (st : List eV) (w : eW) : eRes := match st with
  | .inr (.inr (.inr (.inr (.inl v)))) :: st => bif eBelow ls i then J M (pc + len) (ePut (ePut ls i (some (.inr (.inr (.inr (.inr (.inl v))))))) (i + 1) none) st w else none
  | _ => none
def eBack0 (A : eFn) (M pc : Nat) (ls : eL) (st : List eV) (r : eRes) : eRes := match r with
  | some (.inl none, w) => A M (pc + 3) ls st w
  | some (.inl (some v), w) => A M (pc + 3) ls (v :: st) w
  | _ => none
/-- a call that doesn't throw: a static method, a constructor -/
def eCallT (C A : eFn) (dM dy : Nat) (M pc y n : Nat) (ls : eL) (st : List eV) (w : eW) : eRes := match eTR n st [] with
  | some (as, rest) => bif eAll1 as && (Nat.ble (eCats rest) 8 && Nat.blt dy dM) then eBack0 A M pc ls rest (C y 0 (eArgs as) [] w) else none
  | none => none
def eCallI (C A : eFn) (dM dy cy : Nat) (M pc y n : Nat) (ls : eL) (st : List eV) (w : eW) : eRes := match eTR n st [] with
  | some (.inr (.inl (some r)) :: as, rest) => match eNth w.1 r with
    | some (.inr (.inl (c, _))) => bif Nat.beq c cy && (eAll1 as && (Nat.ble (eCats rest) 8 && Nat.blt dy dM)) then eBack0 A M pc ls rest (C y 0 (eArgs (.inr (.inl (some r)) :: as)) [] w) else none
    | _ => none
  | _ => none
def eRetI (M : Nat) (st : List eV) (w : eW) : eRes := match st with
  | [.inl v] => bif Nat.beq (eRet M) 1 then some (.inl (some (.inl v)), w) else bif Nat.beq (eRet M) 2 then (if wr v = 0 ∨ wr v = 1 then some (.inl (some (.inl v)), w) else none) else none
  | _ => none
def eRetA (M : Nat) (st : List eV) (w : eW) : eRes := match st with
  | [.inr (.inl r)] => bif Nat.beq (eRet M) 3 then some (.inl (some (.inr (.inl r))), w) else none
  | _ => none
def eRetF (M : Nat) (st : List eV) (w : eW) : eRes := match st with
  | [.inr (.inr (.inr (.inl x)))] => bif Nat.beq (eRet M) 4 then some (.inl (some (.inr (.inr (.inr (.inl x))))), w) else none
  | _ => none
def eRetD (M : Nat) (st : List eV) (w : eW) : eRes := match st with
  | [.inr (.inr (.inr (.inr (.inl x))))] => bif Nat.beq (eRet M) 5 then some (.inl (some (.inr (.inr (.inr (.inr (.inl x)))))), w) else none
  | _ => none
def eRetV (M : Nat) (st : List eV) (w : eW) : eRes := match st with
  | [] => bif Nat.beq (eRet M) 0 then some (.inl none, w) else none
  | _ => none
def eBr (J : eFn) (M pc a : Nat) (cd : ClassFile.Cond) (ls : eL) (st : List eV) (w : eW) : eRes := match st with
  | .inl x :: st => eIf cd x 0 (J M a ls st w) (J M (pc + 3) ls st w)
  | _ => none
def eBr2 (J : eFn) (M pc a : Nat) (cd : ClassFile.Cond) (ls : eL) (st : List eV) (w : eW) : eRes := match st with
  | .inl y :: .inl x :: st => eIf cd x y (J M a ls st w) (J M (pc + 3) ls st w)
  | _ => none
def eBrN (J : eFn) (M pc a : Nat) (onNull : Bool) (ls : eL) (st : List eV) (w : eW) : eRes := match st with
  | .inr (.inl none) :: st => J M (bif onNull then a else pc + 3) ls st w
  | .inr (.inl (some _)) :: st => J M (bif onNull then pc + 3 else a) ls st w
  | _ => none
def eStrOp (J : eFn) (M pc a : Nat) (ls : eL) (st : List eV) (w : eW) : eRes := bif Nat.beq a 2000 then (match st with
    | .inr (.inr (.inr (.inr (.inr k)))) :: st => bif Nat.ble 6 (eDep M) && (Nat.ble (eCats st) 8 && Nat.blt k 19) then J M (pc + 3) ls (.inl (eLen (eStr k) : Int) :: st) w else none
    | _ => none)
  else bif Nat.beq a 2001 then (match st with
    | .inl i :: .inr (.inr (.inr (.inr (.inr k)))) :: st => bif Nat.ble 6 (eDep M) && Nat.ble (eCats st) 8 then (if 0 ≤ wr i ∧ wr i < (eLen (eStr k) : Int) then J M (pc + 3) ls (.inl ((eNth (eStr k) (wr i).toNat).getD 0) :: st) w else none) else none
    | _ => none)
  else none
def eStaOp (J : eFn) (M pc a : Nat) (ls : eL) (st : List eV) (w : eW) : eRes := bif Nat.beq a 2002 then (match st with
    | .inl y :: .inl x :: st => bif Nat.ble 1 (eDep M) && Nat.ble (eCats st) 8 then J M (pc + 3) ls (.inl (if wr x < wr y then y else x) :: st) w else none
    | _ => none)
  else bif Nat.beq a 2003 then (match st with
    | .inl y :: .inl x :: st => bif Nat.ble 1 (eDep M) && Nat.ble (eCats st) 8 then J M (pc + 3) ls (.inl (if wr x < wr y then x else y) :: st) w else none
    | _ => none)
  else bif Nat.beq a 2004 && Nat.ble 1 (eDep M) then eCopy J M pc ls st w else none
def eInit (J : eFn) (M pc : Nat) (ls : eL) (st : List eV) (w : eW) : eRes := match st with
  | .inr (.inl (some _)) :: st => bif Nat.ble 1 (eDep M) && Nat.ble (eCats st) 8 then J M (pc + 3) ls st w else none
  | _ => none
def eNew (J : eFn) (M pc a : Nat) (ls : eL) (st : List eV) (w : eW) : eRes := bif Nat.blt a 100 then
    J M (pc + 3) ls (.inr (.inl (some (eLen w.1))) :: st) (w.1 ++ [.inr (.inl (a, eDefs a))], (w.2.1 + 1, w.2.2 + eLen (eDefs a)))
  else bif Nat.ble 8 (eDep M) && Nat.ble (eCats st) 8 then some (.inr (a - 100), (w.1, (w.2.1 + 1, w.2.2 + 6))) else none
/-- what comes back of a call that may throw; the row that catches needs no local -/
def eBackW (A : eFn) (M pc : Nat) (ls : eL) (st : List eV) (catch? : Nat → Option (Option (Nat × Nat))) (r : eRes) : eRes := match r with
  | some (.inl none, w) => A M (pc + 3) ls st w
  | some (.inl (some v), w) => A M (pc + 3) ls (v :: st) w
  | some (.inr E, w) => match catch? E with
    | none => some (.inr E, w)
    | some none => none
    | some (some (_, pc2)) => A M pc2 [] [] w
  | none => none
def eCallW (C A : eFn) (dM dy cy : Nat) (M pc y n : Nat) (ls : eL) (st : List eV) (w : eW) (cat : Nat → Option (Option (Nat × Nat))) : eRes := match eTR n st [] with
  | some (.inr (.inl (some r)) :: as, rest) => match eNth w.1 r with
    | some (.inr (.inl (c, _))) => bif Nat.beq c cy && (eAll1 as && (Nat.ble (eCats rest) 8 && Nat.blt dy dM)) then eBackW A M pc ls rest cat (C y 0 (eArgs (.inr (.inl (some r)) :: as)) [] w) else none
    | _ => none
  | _ => none
/-- what leaves the law itself is nothing that is gone on from -/
def eCat2 (M pc E : Nat) : Option (Option (Nat × Nat)) := bif Nat.beq M 344 then some none else eCatch M pc E
def eStep (J C A : eFn) (M pc : Nat) (ls : eL) (st : List eV) (w : eW) (ins : Instr) (len a b : Nat) : eRes := match ins with
  | .iconst n => J M (pc + len) ls (.inl n :: st) w
  | .bipush n => J M (pc + len) ls (.inl n :: st) w
  | .sipush n => J M (pc + len) ls (.inl n :: st) w
  | .ldc _ => bif Nat.beq b 0 then J M (pc + len) ls (.inl (a : Int) :: st) w else J M (pc + len) ls (.inr (.inr (.inr (.inr (.inr a)))) :: st) w
  | .ldc_w _ => bif Nat.beq b 0 then J M (pc + len) ls (.inl (a : Int) :: st) w else J M (pc + len) ls (.inr (.inr (.inr (.inr (.inr a)))) :: st) w
  | .lconst n => J M (pc + len) ls (.inr (.inr (.inl ((n : Nat) : Int))) :: st) w
  | .fconst n => bif Nat.beq (n : Nat) 0 then J M (pc + len) ls (.inr (.inr (.inr (.inl FP.fconst0))) :: st) w else none
  | .dconst n => bif Nat.beq (n : Nat) 0 then J M (pc + len) ls (.inr (.inr (.inr (.inr (.inl FP.dconst0)))) :: st) w else none
  | .aconst_null => J M (pc + len) ls (.inr (.inl none) :: st) w
  | .iload i => eLoadK J 0 M pc len i ls st w
  | .iload_n i => eLoadK J 0 M pc len i ls st w
  | .aload i => eLoadK J 1 M pc len i ls st w
  | .aload_n i => eLoadK J 1 M pc len i ls st w
  | .dload i => eLoadK J 4 M pc len i ls st w
  | .istore i => eStoreK J 0 M pc len i ls st w
  | .istore_n i => eStoreK J 0 M pc len i ls st w
  | .astore i => eStoreK J 1 M pc len i ls st w
  | .astore_n i => eStoreK J 1 M pc len i ls st w
  | .dstore i => eStoreD J M pc len i ls st w
  | .iinc i n => (match eNth ls i with
    | some (some (.inl x)) => bif eBelow ls i then J M (pc + len) (ePut ls i (some (.inl (x + n)))) st w else none
    | _ => none)
  | .iadd => eBin J M pc ls st w (fun x y => x + y)
  | .isub => eBin J M pc ls st w (fun x y => x - y)
  | .imul => eBin J M pc ls st w (fun x y => x * y)
  | .iand => eBin J M pc ls st w bAnd
  | .ior => eBin J M pc ls st w bOr
  | .ixor => eBin J M pc ls st w bXor
  | .ishl => eBin J M pc ls st w bShl
  | .ishr => eBin J M pc ls st w bShr
  | .iushr => eBin J M pc ls st w bUshr
  | .idiv => (match st with
    | .inl y :: .inl x :: st => if wr y = 0 then none else J M (pc + 1) ls (.inl (bDiv x y) :: st) w
    | _ => none)
  | .irem => (match st with
    | .inl y :: .inl x :: st => if wr y = 0 then none else J M (pc + 1) ls (.inl (bRem x y) :: st) w
    | _ => none)
  | .i2l => (match st with
    | .inl x :: st => J M (pc + 1) ls (.inr (.inr (.inl (wr x))) :: st) w
    | _ => none)
  | .i2b => (match st with
    | .inl x :: st => J M (pc + 1) ls (.inl (bI2b x) :: st) w
    | _ => none)
  | .i2f => (match st with
    | .inl x :: st => J M (pc + 1) ls (.inr (.inr (.inr (.inl (bI2f x)))) :: st) w
    | _ => none)
  | .i2d => (match st with
    | .inl x :: st => J M (pc + 1) ls (.inr (.inr (.inr (.inr (.inl (bI2d x))))) :: st) w
    | _ => none)
  | .f2d => (match st with
    | .inr (.inr (.inr (.inl x))) :: st => if FP.f2d x &&& 0x7fffffffffffffff ≤ 0x7ff0000000000000 then J M (pc + 1) ls (.inr (.inr (.inr (.inr (.inl (FP.f2d x))))) :: st) w else none
    | _ => none)
  | .fdiv => (match st with
    | .inr (.inr (.inr (.inl y))) :: .inr (.inr (.inr (.inl x))) :: st => if FP.fdiv x y &&& 0x7fffffff ≤ 0x7f800000 then J M (pc + 1) ls (.inr (.inr (.inr (.inl (FP.fdiv x y)))) :: st) w else none
    | _ => none)
  | .ddiv => (match st with
    | .inr (.inr (.inr (.inr (.inl y)))) :: .inr (.inr (.inr (.inr (.inl x)))) :: st => if FP.ddiv x y &&& 0x7fffffffffffffff ≤ 0x7ff0000000000000 then J M (pc + 1) ls (.inr (.inr (.inr (.inr (.inl (FP.ddiv x y))))) :: st) w else none
    | _ => none)
  | .dcmp op => (match st with
    | .inr (.inr (.inr (.inr (.inl y)))) :: .inr (.inr (.inr (.inr (.inl x)))) :: st => J M (pc + 1) ls (.inl (bDcmp x y op) :: st) w
    | _ => none)
  | .lcmp => (match st with
    | .inr (.inr (.inl y)) :: .inr (.inr (.inl x)) :: st => J M (pc + 1) ls (.inl (bLcmp x y) :: st) w
    | _ => none)
  | .ifCond cd _ => eBr J M pc a cd ls st w
  | .if_icmp cd _ => eBr2 J M pc a cd ls st w
  | .ifnull _ => eBrN J M pc a true ls st w
  | .ifnonnull _ => eBrN J M pc a false ls st w
  | .goto _ => J M a ls st w
  | .tableswitch dflt lo hi offs => (match st with
    | .inl x :: st => if wr x < lo ∨ hi < wr x then J M ((pc : Int) + dflt).toNat ls st w else (match eNth offs.toList (wr x - lo).toNat with
      | some o => J M ((pc : Int) + o).toNat ls st w
      | none => none)
    | _ => none)
  | .dup => (match st with
    | v :: st => bif Nat.beq (eCat v) 1 then J M (pc + 1) ls (v :: v :: st) w else none
    | _ => none)
  | .dup2 => (match st with
    | v :: u :: st => bif Nat.beq (eCat v) 1 && Nat.beq (eCat u) 1 then J M (pc + 1) ls (v :: u :: v :: u :: st) w else none
    | _ => none)
  | .pop => (match st with
    | v :: st => bif Nat.beq (eCat v) 1 then J M (pc + 1) ls st w else none
    | _ => none)
  | .getfield _ => eGet J M pc a b ls st w
  | .putfield _ => ePutf J M pc a b (eFk a b) ls st w
  | .iaload => eALd J M pc ls st w eOkI (fun x => .inl x)
  | .baload => eALd J M pc ls st w eOkB (fun x => .inl x)
  | .laload => eALd J M pc ls st w eOkJ (fun x => .inr (.inr (.inl x)))
  | .iastore => (match st with
    | .inl v :: .inl i :: .inr (.inl (some r)) :: st => eASt J M pc ls i v r st w eOk0
    | _ => none)
  | .bastore => (match st with
    | .inl v :: .inl i :: .inr (.inl (some r)) :: st => if wr v = 0 ∨ wr v = 1 then eASt J M pc ls i v r st w eOkB else bif eTg w r then eASt J M pc ls i (bAnd v 1) r st w eOk1 else if -128 ≤ wr v ∧ wr v ≤ 127 then eASt J M pc ls i v r st w eOk2 else none
    | _ => none)
  | .lastore => (match st with
    | .inr (.inr (.inl v)) :: .inl i :: .inr (.inl (some r)) :: st => eASt J M pc ls i v r st w eOkJ
    | _ => none)
  | .aaload => eQLd J M pc ls st w
  | .aastore => eQSt J 4 M pc ls st w
  | .arraylength => (match st with
    | .inr (.inl (some r)) :: st => (match eNth w.1 r with
      | some (.inl (t, (n, _))) => bif Nat.beq t 9 then J M (pc + 1) ls (.inl (n : Int) :: st) w else none
      | _ => none)
    | _ => none)
  | .newarray t => (match t with
    | .int => eNewA J M pc len 0 ls st w
    | .boolean => eNewA J M pc len 1 ls st w
    | .byte => eNewA J M pc len 2 ls st w
    | .long => eNewA J M pc len 3 ls st w
    | _ => none)
  | .anewarray _ => eNewQ J M pc ls st w
  | .new _ => eNew J M pc a ls st w
  | .invokestatic _ => bif Nat.blt a 2000 then eCallT C A (eDep M) (eDep a) M pc a b ls st w else eStaOp J M pc a ls st w
  | .invokevirtual _ => bif Nat.blt a 2000 then bif Nat.beq a 8 then eCallI C A (eDep M) (eDep a) (eCls a) M pc a b ls st w else eCallW C A (eDep M) (eDep a) (eCls a) M pc a b ls st w (eCat2 M pc) else eStrOp J M pc a ls st w
  | .invokespecial _ => bif Nat.blt a 2000 then eCallI C A (eDep M) (eDep a) (eCls a) M pc a b ls st w else bif Nat.beq a 2005 then eInit J M pc ls st w else none
  | .ireturn => eRetI M st w
  | .areturn => eRetA M st w
  | .freturn => eRetF M st w
  | .dreturn => eRetD M st w
  | .return_ => eRetV M st w
  | _ => none
def eBody (J C A : eFn) (M pc : Nat) (ls : eL) (st : List eV) (w : eW) : eRes := match eCode M pc with
  | some (ins, (len, (kp, (a, b)))) => eStep J C A M pc (eTake kp ls) st w ins len a b
  | none => none
def eRun : Nat → eFn
  | 0 => fun _ _ _ _ _ => none
  | n + 1 => eBody (eRun n) (eRun n) (eRun n)
