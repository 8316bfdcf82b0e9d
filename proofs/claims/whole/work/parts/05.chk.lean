/-! What the tables say is so: every row decodes to what they tell, every word stands at its place. -/
def eAll : List Cond := lw_tbl.filter goodWord
theorem eAll_of {i : Nat} {w : Cond} (h : lw_tbl[i]? = some w) (hg : goodWord w = true) : w ∈ eAll := List.mem_filter.mpr ⟨List.mem_of_getElem? h, hg⟩
def eFT (a : Nat) : u_T := match a with
  | 0 => TX0 | 1 => TX1 | 2 => TX2 | 3 => TX3 | 4 => TX4 | 5 => TX5 | 6 => TX6 | _ => TX7
def eTy (a : Nat) : Nat → FieldType := match a with
  | 0 => tyX0 | 1 => tyX1 | 2 => tyX2 | 3 => tyX3 | 4 => tyX4 | 5 => tyX5 | 6 => tyX6 | _ => tyX7
def eN (a : Nat) : Nat := match a with
  | 0 => 12 | 1 => 3 | 2 => 3 | 3 => 18 | 4 => 12 | 5 => 4 | 6 => 8 | _ => 22
def eNm (a : Nat) : MethodName := bif Nat.blt a 345 then eNam a else match a with
  | 2000 => ⟨"java/lang/String", "length", "()I"⟩
  | 2001 => ⟨"java/lang/String", "charAt", "(I)C"⟩
  | 2002 => Lib.Math.max.name
  | 2003 => Lib.Math.min.name
  | 2004 => arraycopyName
  | 2005 => Lib.objectInit
  | 2100 => ⟨eExN 0, "<init>", "()V"⟩
  | 2101 => ⟨eExN 1, "<init>", "()V"⟩
  | 2102 => ⟨eExN 2, "<init>", "()V"⟩
  | _ => ⟨eExN 3, "<init>", "()V"⟩
def eIn4 (l : List (Nat × (Nat × (Nat × Nat)))) (c i a : Nat) : Bool := l.any fun q => Nat.beq q.1 c && (Nat.beq q.2.1 i && Nat.beq q.2.2.1 a)
def eIn5 (l : List (Nat × (Nat × (Nat × (Nat × Nat))))) (c i a b : Nat) : Bool := l.any fun q => Nat.beq q.1 c && (Nat.beq q.2.1 i && (Nat.beq q.2.2.1 a && Nat.beq q.2.2.2.1 b))
def eLn (ins : Instr) : Nat := match ins with
  | .bipush _ => 2 | .ldc _ => 2 | .iload _ => 2 | .aload _ => 2 | .dload _ => 2 | .istore _ => 2 | .astore _ => 2 | .dstore _ => 2 | .newarray _ => 2
  | .sipush _ => 3 | .ldc_w _ => 3 | .iinc _ _ => 3 | .ifCond _ _ => 3 | .if_icmp _ _ => 3 | .ifnull _ => 3 | .ifnonnull _ => 3 | .goto _ => 3 | .getfield _ => 3 | .putfield _ => 3 | .new _ => 3 | .anewarray _ => 3
  | .invokestatic _ => 3 | .invokevirtual _ => 3 | .invokespecial _ => 3
  | _ => 1
def eRefTy (t : FieldType) : Bool := match t with
  | .object _ => true | .array _ => true | _ => false
def eChkJ (M pc : Nat) (ins : Instr) (len a b : Nat) : Bool := match ins with
  | .tableswitch d _ _ offs => decide (0 ≤ (pc : Int) + d) && offs.toList.all (fun o => decide (0 ≤ (pc : Int) + o))
  | .bipush n => decide ((Int8.ofInt n).toInt32 = Int32.ofInt n)
  | .sipush n => decide ((Int16.ofInt n).toInt32 = Int32.ofInt n)
  | .ldc i => bif Nat.beq b 0 then eIn4 eKS (eOw M) i a else eIn4 eSS (eOw M) i a
  | .ldc_w i => bif Nat.beq b 0 then eIn4 eKS (eOw M) i a else eIn4 eSS (eOw M) i a
  | .istore i => Nat.blt i (eMaxL M)
  | .istore_n i => Nat.blt i (eMaxL M)
  | .astore i => Nat.blt i (eMaxL M)
  | .astore_n i => Nat.blt i (eMaxL M)
  | .dstore i => Nat.blt (i + 1) (eMaxL M)
  | .iinc i _ => Nat.blt i (eMaxL M)
  | .ifCond _ o => decide ((pc : Int) + o = (a : Int))
  | .if_icmp _ o => decide ((pc : Int) + o = (a : Int))
  | .ifnull o => decide ((pc : Int) + o = (a : Int))
  | .ifnonnull o => decide ((pc : Int) + o = (a : Int))
  | .goto o => decide ((pc : Int) + o = (a : Int))
  | .getfield i => eIn5 eFS (eOw M) i a b && (Nat.blt a 8 && Nat.blt b (eN a))
  | .putfield i => eIn5 eFS (eOw M) i a b && (Nat.blt a 8 && (Nat.blt b (eN a) && ((bif (eFT a b).2.2.2 then Nat.beq (eKd M) 2 && Nat.beq (eOw M) a else true) && (bif eFk a b then eRefTy (eTy a b) else decide (eTy a b = .int)))))
  | .new i => eIn4 eCS (eOw M) i a && (bif Nat.blt a 100 then Nat.blt a 8 else Nat.blt a 104 && (decide (decode (eByt M) (pc + 3) = .ok (.dup, 1)) && ((match eCode M (pc + 4) with
      | some (.invokespecial j, (3, (_, (y, _)))) => Nat.beq y (a + 2000) && eIn5 eMS (eOw M) j y 0
      | _ => false) && (decide (decode (eByt M) (pc + 7) = .ok (.athrow, 1)) && Nat.beq (eOw M) 6))))
  | .anewarray i => eIn4 eCS (eOw M) i 4
  | .invokestatic i => bif Nat.blt a 2000 then Nat.blt a 345 && (eIn5 eMS (eOw M) i a 0 && (Nat.beq (eKd a) 1 && Nat.beq b (eNar a))) else eIn5 eMS (eOw M) i a 0
  | .invokevirtual i => bif Nat.blt a 2000 then Nat.blt a 345 && ((eIn5 eMS (eOw M) i a 0 || eIn5 eMS (eOw M) i a 1) && (Nat.beq (eKd a) 0 && (Nat.beq b (eNar a + 1) && Nat.beq (eCls a) (eOw a)))) else eIn5 eMS (eOw M) i a 0
  | .invokespecial i => bif Nat.blt a 2000 then Nat.blt a 345 && ((eIn5 eMS (eOw M) i a 0 || eIn5 eMS (eOw M) i a 1) && (Nat.beq (eKd a) 2 && (Nat.beq b (eNar a + 1) && Nat.beq (eCls a) (eOw a)))) else eIn5 eMS (eOw M) i a 0
  | _ => true
def eChk (M pc : Nat) : Bool := match eCode M pc with
  | some (ins, (len, (_, (a, b)))) => decide (decode (eByt M) pc = .ok (ins, len)) && ((match ins with
    | .tableswitch _ _ _ _ => true
    | _ => Nat.beq len (eLn ins)) && eChkJ M pc ins len a b)
  | none => true
def eChkM (lo n : Nat) : Bool := (List.range n).all fun i => (List.range (eLB (lo + i))).all fun pc => eChk (lo + i) pc
def eChkL (lo n : Nat) : Bool := (List.range n).all fun i => eChk m_L_law (lo + i)
theorem eFS_ok : eFS.all (fun q => decide (lw_tbl[q.2.2.2.2]? = some (.fieldLink (eCN q.1) q.2.1 (eCN q.2.2.1) (eFT q.2.2.1 q.2.2.2.1).2.1 (eFT q.2.2.1 q.2.2.2.1).2.2.1))) = true := by decide +kernel
theorem eMS_ok : eMS.all (fun q => decide (lw_tbl[q.2.2.2.2]? = some (bif Nat.beq q.2.2.2.1 0 then .methodLink (eCN q.1) q.2.1 (eNm q.2.2.1) else .methodLinkNest (eCN q.1) q.2.1 (eNm q.2.2.1) "ShopCross"))) = true := by decide +kernel
theorem eCS_ok : eCS.all (fun q => decide (lw_tbl[q.2.2.2]? = some (.classLink (eCN q.1) q.2.1 (bif Nat.blt q.2.2.1 100 then eCN q.2.2.1 else eExN (q.2.2.1 - 100))))) = true := by decide +kernel
theorem eKS_ok : eKS.all (fun q => decide (lw_tbl[q.2.2.2]? = some (.constant (eCN q.1) q.2.1 (Int32.ofInt (q.2.2.1 : Int))))) = true := by decide +kernel
def eHdC (lo n : Nat) : Bool := (List.range n).all fun i => decide (lw_tbl[eHp (lo + i)]? = some (eHd (lo + i)))
def eMpC (lo n : Nat) : Bool := (List.range n).all fun i => bif Nat.beq (eKd (lo + i)) 0 then decide (lw_tbl[(eMp (lo + i)).1]? = some (.instanceMethod (eNam (lo + i)))) && decide (lw_tbl[(eMp (lo + i)).2]? = some (.selects (eCN (eOw (lo + i))) (eNam (lo + i)) (eNam (lo + i))))
  else bif Nat.beq (eKd (lo + i)) 1 then decide (lw_tbl[(eMp (lo + i)).1]? = some (.static (eNam (lo + i)))) else decide (lw_tbl[(eMp (lo + i)).1]? = some (.instanceMethod (eNam (lo + i))))
theorem eHd_0 : eHdC 0 20 = true := by decide +kernel
theorem eHd_1 : eHdC 20 20 = true := by decide +kernel
theorem eHd_2 : eHdC 40 20 = true := by decide +kernel
theorem eHd_3 : eHdC 60 20 = true := by decide +kernel
theorem eHd_4 : eHdC 80 20 = true := by decide +kernel
theorem eHd_5 : eHdC 100 20 = true := by decide +kernel
theorem eHd_6 : eHdC 120 20 = true := by decide +kernel
theorem eHd_7 : eHdC 140 20 = true := by decide +kernel
theorem eHd_8 : eHdC 160 20 = true := by decide +kernel
theorem eHd_9 : eHdC 180 20 = true := by decide +kernel
theorem eHd_10 : eHdC 200 20 = true := by decide +kernel
theorem eHd_11 : eHdC 220 20 = true := by decide +kernel
theorem eHd_12 : eHdC 240 20 = true := by decide +kernel
theorem eHd_13 : eHdC 260 20 = true := by decide +kernel
theorem eHd_14 : eHdC 280 20 = true := by decide +kernel
theorem eHd_15 : eHdC 300 20 = true := by decide +kernel
theorem eHd_16 : eHdC 320 20 = true := by decide +kernel
theorem eHd_17 : eHdC 340 4 = true := by decide +kernel
theorem eMp_0 : eMpC 0 20 = true := by decide +kernel
theorem eMp_1 : eMpC 20 20 = true := by decide +kernel
theorem eMp_2 : eMpC 40 20 = true := by decide +kernel
theorem eMp_3 : eMpC 60 20 = true := by decide +kernel
theorem eMp_4 : eMpC 80 20 = true := by decide +kernel
theorem eMp_5 : eMpC 100 20 = true := by decide +kernel
theorem eMp_6 : eMpC 120 20 = true := by decide +kernel
theorem eMp_7 : eMpC 140 20 = true := by decide +kernel
theorem eMp_8 : eMpC 160 20 = true := by decide +kernel
theorem eMp_9 : eMpC 180 20 = true := by decide +kernel
theorem eMp_10 : eMpC 200 20 = true := by decide +kernel
theorem eMp_11 : eMpC 220 20 = true := by decide +kernel
theorem eMp_12 : eMpC 240 20 = true := by decide +kernel
theorem eMp_13 : eMpC 260 20 = true := by decide +kernel
theorem eMp_14 : eMpC 280 20 = true := by decide +kernel
theorem eMp_15 : eMpC 300 20 = true := by decide +kernel
theorem eMp_16 : eMpC 320 20 = true := by decide +kernel
theorem eMp_17 : eMpC 340 4 = true := by decide +kernel
theorem eIni_ok : eIni.all (fun q => decide (lw_tbl[q.2]? = some (.initialized (eCN q.1)))) = true := by decide +kernel
theorem eIns8_ok : eIns8.all (fun q => decide (lw_tbl[q.2.2]? = some (.instantiable (eCN q.1) (eN q.1)))) = true := by decide +kernel
theorem eNam_ok : (List.range 345).all (fun M => decide ((eNam M).cls = eCN (eOw M)) && (plainName (eNam M).cls && (decide ((eNam M).cls ≠ "java/lang/invoke/MethodHandle" ∧ (eNam M).cls ≠ "java/lang/invoke/VarHandle" ∧ (parseMethodDescriptor (eNam M).desc).map (fun d => d.parameters.length) = some (eNar M)) && (decide ((Nat.beq (eKd M) 2) = decide ((eNam M).name = "<init>")) && (Nat.ble (eMaxL M) 20 && Nat.blt (eOw M) 10))))) = true := by decide +kernel
theorem eRt_ok : (List.range 345).all (fun M => match eRet M with
  | 0 => decide (eRt M = none) | 1 => decide (eRt M = some .int) | 2 => decide (eRt M = some .boolean)
  | 3 => (match eRt M with | some t => eRefTy t | none => false) | 4 => decide (eRt M = some .float) | 5 => decide (eRt M = some .double) | _ => false) = true := by decide +kernel
