/-! The JDK's length and charAt over the String constants. -/
def sRm (d : Nat) : Room := { frames := d, locals := 39 * d, cells := 0, slots := 0 }
def sPc (E : eE) (A : Nat → Prop) (vs : List Value) : Array Value → State → Prop := fun v U => v = vs.toArray ∧ eX E A U
def sQc (v : Option Value) : Array Value → State → Outcome → State → Prop := fun _ st oc t => oc = .returned v ∧ t.heap = st.heap
theorem sPc_blind {E : eE} {A : Nat → Prop} {vs : List Value} : FrameBlind (sPc E A vs) := fun _ _ _ _ h => ⟨h.1, eX_same h.2 rfl rfl⟩
theorem sW_coder : Cond.code yJ0_coder_7d493 cJ0_coder_7d493 1 (some .byte) ∈ eAll := eAll_of (i := 395) (by decide +kernel) rfl
theorem sW_length : Cond.code yJ0_length_8abf5 cJ0_length_8abf5 1 (some .int) ∈ eAll := eAll_of (i := 391) (by decide +kernel) rfl
theorem sW_charAt : Cond.code yJ0_charAt_5068e cJ0_charAt_5068e 2 (some .char) ∈ eAll := eAll_of (i := 401) (by decide +kernel) rfl
theorem sW_isLatin1 : Cond.code yJ0_isLatin1_aae02 cJ0_isLatin1_aae02 1 (some .boolean) ∈ eAll := eAll_of (i := 405) (by decide +kernel) rfl
theorem sW_charAt1 : Cond.code yJ1_charAt_3b067 cJ1_charAt_3b067 2 (some .char) ∈ eAll := eAll_of (i := 408) (by decide +kernel) rfl
theorem sW_check0 : Cond.code yJ0_checkIndex_df160 cJ0_checkIndex_df160 2 none ∈ eAll := eAll_of (i := 411) (by decide +kernel) rfl
theorem sW_check3 : Cond.code yJ3_checkIndex_8e157 cJ3_checkIndex_8e157 3 (some .int) ∈ eAll := eAll_of (i := 416) (by decide +kernel) rfl
theorem sW_i0 : Cond.initialized "java/lang/String" ∈ eAll := eAll_of (i := 100) (by decide +kernel) rfl
theorem sW_i1 : Cond.initialized "java/lang/StringLatin1" ∈ eAll := eAll_of (i := 101) (by decide +kernel) rfl
theorem sW_i3 : Cond.initialized "jdk/internal/util/Preconditions" ∈ eAll := eAll_of (i := 102) (by decide +kernel) rfl
theorem sL_value : Cond.fieldLink "java/lang/String" 9 "java/lang/String" "value" "[B" ∈ eAll := eAll_of (i := 1994) (by decide +kernel) rfl
theorem sL_coder : Cond.fieldLink "java/lang/String" 15 "java/lang/String" "coder" "B" ∈ eAll := eAll_of (i := 1995) (by decide +kernel) rfl
theorem sL_compact : Cond.fieldLink "java/lang/String" 38 "java/lang/String" "COMPACT_STRINGS" "Z" ∈ eAll := eAll_of (i := 396) (by decide +kernel) rfl
theorem sL_siobe : Cond.fieldLink "java/lang/String" 1053 "jdk/internal/util/Preconditions" "SIOOBE_FORMATTER" "Ljava/util/function/BiFunction;" ∈ eAll := eAll_of (i := 412) (by decide +kernel) rfl
theorem sM_coder : Cond.methodLink "java/lang/String" 335 yJ0_coder_7d493 ∈ eAll ∧ Cond.instanceMethod yJ0_coder_7d493 ∈ eAll ∧ Cond.selects "java/lang/String" yJ0_coder_7d493 yJ0_coder_7d493 ∈ eAll := ⟨eAll_of (i := 392) (by decide +kernel) rfl, eAll_of (i := 393) (by decide +kernel) rfl, eAll_of (i := 394) (by decide +kernel) rfl⟩
theorem sM_isLatin1 : Cond.methodLink "java/lang/String" 492 yJ0_isLatin1_aae02 ∈ eAll ∧ Cond.instanceMethod yJ0_isLatin1_aae02 ∈ eAll ∧ Cond.selects "java/lang/String" yJ0_isLatin1_aae02 yJ0_isLatin1_aae02 ∈ eAll := ⟨eAll_of (i := 402) (by decide +kernel) rfl, eAll_of (i := 403) (by decide +kernel) rfl, eAll_of (i := 404) (by decide +kernel) rfl⟩
theorem sM_length : Cond.instanceMethod yJ0_length_8abf5 ∈ eAll ∧ Cond.selects "java/lang/String" yJ0_length_8abf5 yJ0_length_8abf5 ∈ eAll := ⟨eAll_of (i := 389) (by decide +kernel) rfl, eAll_of (i := 390) (by decide +kernel) rfl⟩
theorem sM_charAt : Cond.instanceMethod yJ0_charAt_5068e ∈ eAll ∧ Cond.selects "java/lang/String" yJ0_charAt_5068e yJ0_charAt_5068e ∈ eAll := ⟨eAll_of (i := 399) (by decide +kernel) rfl, eAll_of (i := 400) (by decide +kernel) rfl⟩
theorem sM_charAt1 : Cond.methodLink "java/lang/String" 495 yJ1_charAt_3b067 ∈ eAll ∧ Cond.static yJ1_charAt_3b067 ∈ eAll := ⟨eAll_of (i := 406) (by decide +kernel) rfl, eAll_of (i := 407) (by decide +kernel) rfl⟩
theorem sM_check0 : Cond.methodLink "java/lang/StringLatin1" 9 yJ0_checkIndex_df160 ∈ eAll ∧ Cond.static yJ0_checkIndex_df160 ∈ eAll := ⟨eAll_of (i := 409) (by decide +kernel) rfl, eAll_of (i := 410) (by decide +kernel) rfl⟩
theorem sM_check3 : Cond.methodLink "java/lang/String" 1059 yJ3_checkIndex_8e157 ∈ eAll ∧ Cond.static yJ3_checkIndex_8e157 ∈ eAll := ⟨eAll_of (i := 414) (by decide +kernel) rfl, eAll_of (i := 415) (by decide +kernel) rfl⟩
theorem sGood {w : Cond} (h : w ∈ eAll) : GoodIn eAll (w :: eAll) := by
  intro u hu
  have hin : u ∈ eAll := by
    rcases List.mem_cons.mp hu with rfl | hu
    · exact h
    · exact hu
  exact ⟨hin, good_of_word (List.mem_filter.mp hin).2⟩
theorem sTx_ok : eSb.all (fun l => l.all fun b => decide (((b &&& 255).toUInt32 % 65536).toInt32 = b) && decide (b.toUInt32.toUInt16.toUInt32.toInt32 = b)) = true := by decide +kernel
theorem sTx_len : (List.range 19).all (fun k => Nat.beq (eSl.getD k 0) (eLen (eStr k)) && Nat.beq (eSb.getD k []).length (eLen (eStr k)) && Nat.blt (eLen (eStr k)) 1000) = true := by decide +kernel
theorem sStr_19 : ∀ k, 19 ≤ k → eStr k = [] := by
  intro k hk
  unfold eStr
  split <;> first | omega | rfl
theorem sSb_at {k j : Nat} (hk : k < 19) (hj : j < eLen (eStr k)) : (eSb.getD k []).getD j 0 = Int32.ofInt ((eNth (eStr k) j).getD 0) := by
  have h : eSb.getD k [] = (eStr k).map fun x => Int32.ofInt x := by
    unfold eSb
    rw [List.getD_eq_getElem?_getD, List.getElem?_map, List.getElem?_range hk]
    rfl
  rw [h, eNth_eq, List.getD_eq_getElem?_getD, List.getElem?_map]
  rw [eLen_eq] at hj
  rw [List.getElem?_eq_getElem hj]
  rfl
theorem sLen_at {k : Nat} (hk : k < 19) : eSl.getD k 0 = eLen (eStr k) ∧ (eSb.getD k []).length = eLen (eStr k) ∧ eLen (eStr k) < 1000 := by
  have h := List.all_eq_true.mp sTx_len k (List.mem_range.mpr hk)
  simp only [Bool.and_eq_true, Nat.beq_eq, Nat.blt_eq] at h
  exact ⟨h.1.1, h.1.2, h.2⟩
theorem sCh_at {k j : Nat} (hk : k < 19) (hj : j < eLen (eStr k)) : ((((eSb.getD k []).getD j 0) &&& 255).toUInt32 % 65536).toInt32 = (eSb.getD k []).getD j 0 ∧ narrow .char (.int ((eSb.getD k []).getD j 0)) = .int ((eSb.getD k []).getD j 0) := by
  have h1 : eSb.getD k [] ∈ eSb := by
    rw [List.getD_eq_getElem?_getD, List.getElem?_eq_getElem (show k < eSb.length from hk)]
    exact List.getElem_mem _
  have h2 := List.all_eq_true.mp (List.all_eq_true.mp sTx_ok _ h1)
  have hl := (sLen_at hk).2.1
  have h3 : (eSb.getD k []).getD j 0 ∈ eSb.getD k [] := by
    generalize eSb.getD k [] = L at hl ⊢
    rw [List.getD_eq_getElem?_getD, List.getElem?_eq_getElem (show j < L.length by omega)]
    exact List.getElem_mem _
  have h4 := h2 _ h3
  simp only [Bool.and_eq_true, decide_eq_true_eq] at h4
  exact ⟨h4.1, congrArg Value.int h4.2⟩
theorem sS_at {E : eE} {A : Nat → Prop} {s : State} {k : Nat} (hX : eX E A s) (hk : k < 19) : va_O "java/lang/String" (E.2.2.2.1 k) A s s.heap ∧ va_OF "java/lang/String" "coder" "B" (.int 0) (E.2.2.2.1 k) A s s.heap ∧ va_OF "java/lang/String" "value" "[B" (.ref (E.2.2.2.2 k)) (E.2.2.2.1 k) A s s.heap ∧ va_T .byte (E.2.2.2.2 k) (eSl.getD k 0) (fun j => .int ((eSb.getD k []).getD j 0)) A s s.heap := (hX.2.2.2.2.2.2.1.1 k hk).1 0 (by decide)
theorem sRecv {E : eE} {A : Nat → Prop} {s : State} {H : Heap} {locs : List Loc} {k : Nat} (hX : eX E A s) (hk : k < 19) (hS : va_S A s.heap H locs) : ∃ cell : Cell, H[E.2.2.2.1 k]? = some cell ∧ cell.vm.isStatics = false ∧ s.vm.findClass "java/lang/String" = some cell.cls := vk_recv (hX.2.2.2.2.2.2.1.1 k hk) (i := 0) (by decide) hS
section Str
variable {p : Program} {l : Launch} {e : Env} {R : Room} {s : State} {m : MethodId} {args : Array Value} {below : List Frame} {meth : Method} {c : Code} {H : Heap} {locs : List Loc} {kc ks : Nat} {Q : State → Prop} {E : eE} {A : Nat → Prop}
theorem s_take {v : Option Value} {aa : Array Value} {pc : Nat} {lsm : Array Slot} {stv rest : List Value} (hr : va_Run p l e R s m args below meth c H locs kc ks 0 0 (F0 m pc lsm stv) rest (sQc v aa) (fun _ => False)) (k : W p l e R s m args below meth c H locs kc ks Q (F0 m (pc + 3) lsm (v.toList ++ rest))) : W p l e R s m args below meth c H locs kc ks Q (F0 m pc lsm stv) := by
  intro T hT XX
  obtain ⟨v', st0, t, T', L, h0, X', hL, e1, e2, ⟨hv, hh⟩, st⟩ := hr T hT XX
  cases hv
  obtain rfl : L = [] := by
    cases L with
    | nil => rfl
    | cons a _ => exact (hL a List.mem_cons_self).elim
  rw [List.append_nil] at X'
  obtain ⟨t2, a1, b1⟩ := k T' (by rw [e1, hh, h0]) X'
  exact ⟨t2, st t2 a1, b1⟩
/-- a call of a static or virtual of the JDK's that only reads -/
theorem s_callS {y : MethodName} {cc0 : ByteArray} {mx d n pc i nL : Nat} {ret : Option FieldType} {own : String} {v : Option Value} {lsm : Array Slot} {As rest : List Value} {cc : ByteArray} (hS : CallFix p m c cc nL s args eAll own) (hcode : Cond.code y cc0 mx ret ∈ eAll) (hM : Met l y (Cond.code y cc0 mx ret :: eAll) (sRm d) (sPc E A As) (sQc v) 0 0 (fun _ => False)) (hX : ∀ U : State, U.heap = H → s.WarmedH U.vm → eX E A U) (hl : Cond.methodLink own i y ∈ eAll) (hst : Cond.static y ∈ eAll) (hini : Cond.initialized y.cls ∈ eAll)
    (hd9 : y.cls ≠ "java/lang/invoke/MethodHandle" ∧ y.cls ≠ "java/lang/invoke/VarHandle" ∧ (parseMethodDescriptor y.desc).map (fun d => d.parameters.length) = some n) (hfr : d + 1 ≤ R.frames) (hlo : 8 + (mx + 11) + 39 * d ≤ R.locals) (hn : As.length = n) (hsize : lsm.size = nL) (hW : (rest.map fun v => v.category).sum ≤ 8) (hd : decode cc pc = .ok (.invokestatic i, 3)) (hf : kc ≤ R.cells ∧ ks ≤ R.slots)
    (k : W p l e R s m args below meth c H locs kc ks Q (F0 m (pc + 3) lsm (v.toList ++ rest))) : W p l e R s m args below meth c H locs kc ks Q (F0 m pc lsm (As.reverse ++ rest)) :=
  s_take (va_runS hS hM ⟨callB_of (Ts := eAll) (ws' := eAll) _ hS.2.2.2.2 (sGood hcode) rfl rfl rfl (hS.2.2.2.2 _ hini) (hS.2.2.2.2 _ hl) hd9 ⟨hfr, hlo⟩, hS.2.2.2.2 _ hst⟩ ⟨sPc_blind, fun U h1 h2 => ⟨rfl, hX U h1 h2⟩⟩ rfl hn hsize rfl (by show 2 * 0 + _ ≤ 8; omega) hd hf) k
theorem s_callV {y : MethodName} {cc0 : ByteArray} {mx d n pc i nL a : Nat} {ret : Option FieldType} {own : String} {v : Option Value} {lsm : Array Slot} {As rest : List Value} {cc : ByteArray} (hS : CallFix p m c cc nL s args eAll own) (hcode : Cond.code y cc0 mx ret ∈ eAll) (hM : Met l y (Cond.code y cc0 mx ret :: eAll) (sRm d) (sPc E A (.ref a :: As)) (sQc v) 0 0 (fun _ => False)) (hX : ∀ U : State, U.heap = H → s.WarmedH U.vm → eX E A U) (hl : Cond.methodLink own i y ∈ eAll) (hin : Cond.instanceMethod y ∈ eAll ∧ Cond.selects "java/lang/String" y y ∈ eAll) (hini : Cond.initialized y.cls ∈ eAll)
    (hd9 : y.cls ≠ "java/lang/invoke/MethodHandle" ∧ y.cls ≠ "java/lang/invoke/VarHandle" ∧ (parseMethodDescriptor y.desc).map (fun d => d.parameters.length) = some n) (hfr : d + 1 ≤ R.frames) (hlo : 8 + (mx + 11) + 39 * d ≤ R.locals) (hcell : ∃ cell : Cell, H[a]? = some cell ∧ cell.vm.isStatics = false ∧ s.vm.findClass "java/lang/String" = some cell.cls) (hn : As.length = n) (hsize : lsm.size = nL) (hW : (rest.map fun v => v.category).sum ≤ 8) (hd : decode cc pc = .ok (.invokevirtual i, 3)) (hf : kc ≤ R.cells ∧ ks ≤ R.slots)
    (k : W p l e R s m args below meth c H locs kc ks Q (F0 m (pc + 3) lsm (v.toList ++ rest))) : W p l e R s m args below meth c H locs kc ks Q (F0 m pc lsm (As.reverse ++ .ref a :: rest)) :=
  s_take (va_runV hS hM ⟨callB_of (Ts := eAll) (ws' := eAll) _ hS.2.2.2.2 (sGood hcode) rfl rfl rfl (hS.2.2.2.2 _ hini) (hS.2.2.2.2 _ hl) hd9 ⟨hfr, hlo⟩, hS.2.2.2.2 _ hin.1, hS.2.2.2.2 _ hin.2⟩ ⟨sPc_blind, hcell, fun U h1 h2 => ⟨rfl, hX U h1 h2⟩⟩ rfl hn hsize rfl (by show 2 * 0 + _ ≤ 8; omega) hd hf) k
end Str
theorem s_coder (l : Launch) (E : eE) (A : Nat → Prop) {k : Nat} (hk : k < 19) : Met l yJ0_coder_7d493 (Cond.code yJ0_coder_7d493 cJ0_coder_7d493 1 (some .byte) :: eAll) (sRm 0) (sPc E A [.ref (E.2.2.2.1 k)]) (sQc (some (.int 0))) 0 0 (fun _ => False) := by
  refine Met.ofW (cc := cJ0_coder_7d493) (maxL := 1) (ret := (some .byte)) (by decide +kernel) rfl ?_
  intro p e s m args below meth c s₁ B hml hv
  obtain ⟨rfl, hX⟩ := hv
  have hx := B.exec
  have hb := B.bytes
  have hr := B.returns
  have hts : ∀ w ∈ eAll, w.before _ s = true := fun w hw => atoms_spec B.pre w (List.mem_cons_of_mem _ hw)
  have hown : s.vm.findClass "java/lang/String" = some m.cls := findClass_of_methodNamed B.named
  have hlocks := B.notSynchronized
  have hS : va_S A s.heap s.heap [] := va_S.rf
  have hXU : ∀ U : State, U.heap = s.heap → s.WarmedH U.vm → eX E A U := fun U h1 h2 => eX_at hX (H := s.heap) (Nat.le_refl _) (fun _ _ _ => rfl) h1 h2 (fun _ h => h)
  have hl := lv_entry ([.ref (E.2.2.2.1 k)]) (n := 1) (Nat.le_of_ble_eq_true rfl)
  rw [lg_entry_eq]
  generalize (lg_sl ([.ref (E.2.2.2.1 k)]) ++ List.replicate (1 - (lg_sl ([.ref (E.2.2.2.1 k)])).length) Slot.unset).toArray = ls at hl ⊢
  have hl : lv_has ls 1 [(0, .ref (E.2.2.2.1 k))] := hl
  have s1 := sS_at hX hk
  have s3 := hX.2.2.2.2.2.2.1.2.2.1
  refine va_gets hx hb s3 hS hown (hts _ sL_compact) (fun _ h => h) (pc := 0) (show decode cJ0_coder_7d493 0 = .ok (.getstatic 38, 3) by decide +kernel) ?_
  refine lv_if_eq hx hb (tgt := 13) (pc := 3) (show decode cJ0_coder_7d493 3 = .ok (.ifCond .eq 10, 3) by decide +kernel) rfl (fun h => by cases h) (fun _ => ?_)
  refine lv_aload_n hx hb (pc := 6) (show decode cJ0_coder_7d493 6 = .ok (.aload_n 0, 1) by decide +kernel) rfl (lv_at hl 0 rfl) ?_
  refine vk_getf hx hb s1.2.1 hS hown (hts _ sL_coder) (fun _ h => h) (pc := 7) (show decode cJ0_coder_7d493 7 = .ok (.getfield 15, 3) by decide +kernel) ?_
  refine lv_goto hx hb (tgt := 14) (pc := 10) (show decode cJ0_coder_7d493 10 = .ok (.goto 4, 3) by decide +kernel) rfl ?_
  exact W.zret hx hb hr rfl (fun t ht hW => ⟨rfl, ht⟩) (fun _ h => by cases h) (pc := 14) (show decode cJ0_coder_7d493 14 = .ok (.ireturn, 1) by decide +kernel) hlocks
theorem s_isLatin1 (l : Launch) (E : eE) (A : Nat → Prop) {k : Nat} (hk : k < 19) : Met l yJ0_isLatin1_aae02 (Cond.code yJ0_isLatin1_aae02 cJ0_isLatin1_aae02 1 (some .boolean) :: eAll) (sRm 0) (sPc E A [.ref (E.2.2.2.1 k)]) (sQc (some (.int 1))) 0 0 (fun _ => False) := by
  refine Met.ofW (cc := cJ0_isLatin1_aae02) (maxL := 1) (ret := (some .boolean)) (by decide +kernel) rfl ?_
  intro p e s m args below meth c s₁ B hml hv
  obtain ⟨rfl, hX⟩ := hv
  have hx := B.exec
  have hb := B.bytes
  have hr := B.returns
  have hts : ∀ w ∈ eAll, w.before _ s = true := fun w hw => atoms_spec B.pre w (List.mem_cons_of_mem _ hw)
  have hown : s.vm.findClass "java/lang/String" = some m.cls := findClass_of_methodNamed B.named
  have hlocks := B.notSynchronized
  have hS : va_S A s.heap s.heap [] := va_S.rf
  have hXU : ∀ U : State, U.heap = s.heap → s.WarmedH U.vm → eX E A U := fun U h1 h2 => eX_at hX (H := s.heap) (Nat.le_refl _) (fun _ _ _ => rfl) h1 h2 (fun _ h => h)
  have hl := lv_entry ([.ref (E.2.2.2.1 k)]) (n := 1) (Nat.le_of_ble_eq_true rfl)
  rw [lg_entry_eq]
  generalize (lg_sl ([.ref (E.2.2.2.1 k)]) ++ List.replicate (1 - (lg_sl ([.ref (E.2.2.2.1 k)])).length) Slot.unset).toArray = ls at hl ⊢
  have hl : lv_has ls 1 [(0, .ref (E.2.2.2.1 k))] := hl
  have s1 := sS_at hX hk
  have s3 := hX.2.2.2.2.2.2.1.2.2.1
  refine va_gets hx hb s3 hS hown (hts _ sL_compact) (fun _ h => h) (pc := 0) (show decode cJ0_isLatin1_aae02 0 = .ok (.getstatic 38, 3) by decide +kernel) ?_
  refine lv_if_eq hx hb (tgt := 17) (pc := 3) (show decode cJ0_isLatin1_aae02 3 = .ok (.ifCond .eq 14, 3) by decide +kernel) rfl (fun h => by cases h) (fun _ => ?_)
  refine lv_aload_n hx hb (pc := 6) (show decode cJ0_isLatin1_aae02 6 = .ok (.aload_n 0, 1) by decide +kernel) rfl (lv_at hl 0 rfl) ?_
  refine vk_getf hx hb s1.2.1 hS hown (hts _ sL_coder) (fun _ h => h) (pc := 7) (show decode cJ0_isLatin1_aae02 7 = .ok (.getfield 15, 3) by decide +kernel) ?_
  refine lv_if_ne hx hb (tgt := 17) (pc := 10) (show decode cJ0_isLatin1_aae02 10 = .ok (.ifCond .ne 7, 3) by decide +kernel) rfl (fun h => absurd rfl h) (fun _ => ?_)
  refine lv_iconst hx hb (v := 1) (pc := 13) (show decode cJ0_isLatin1_aae02 13 = .ok (.iconst 1, 1) by decide +kernel) rfl ?_
  refine lv_goto hx hb (tgt := 18) (pc := 14) (show decode cJ0_isLatin1_aae02 14 = .ok (.goto 4, 3) by decide +kernel) rfl ?_
  exact W.zret hx hb hr rfl (fun t ht hW => ⟨rfl, ht⟩) (fun _ h => by cases h) (pc := 18) (show decode cJ0_isLatin1_aae02 18 = .ok (.ireturn, 1) by decide +kernel) hlocks
theorem s_length (l : Launch) (E : eE) (A : Nat → Prop) {k : Nat} (hk : k < 19) : Met l yJ0_length_8abf5 (Cond.code yJ0_length_8abf5 cJ0_length_8abf5 1 (some .int) :: eAll) (sRm 1) (sPc E A [.ref (E.2.2.2.1 k)]) (sQc (some (.int (Int32.ofNat (eSl.getD k 0))))) 0 0 (fun _ => False) := by
  refine Met.ofW (cc := cJ0_length_8abf5) (maxL := 1) (ret := (some .int)) (by decide +kernel) rfl ?_
  intro p e s m args below meth c s₁ B hml hv
  obtain ⟨rfl, hX⟩ := hv
  have hx := B.exec
  have hb := B.bytes
  have hr := B.returns
  have hts : ∀ w ∈ eAll, w.before _ s = true := fun w hw => atoms_spec B.pre w (List.mem_cons_of_mem _ hw)
  have hown : s.vm.findClass "java/lang/String" = some m.cls := findClass_of_methodNamed B.named
  have hlocks := B.notSynchronized
  have hS : va_S A s.heap s.heap [] := va_S.rf
  have hXU : ∀ U : State, U.heap = s.heap → s.WarmedH U.vm → eX E A U := fun U h1 h2 => eX_at hX (H := s.heap) (Nat.le_refl _) (fun _ _ _ => rfl) h1 h2 (fun _ h => h)
  have hl := lv_entry ([.ref (E.2.2.2.1 k)]) (n := 1) (Nat.le_of_ble_eq_true rfl)
  rw [lg_entry_eq]
  generalize (lg_sl ([.ref (E.2.2.2.1 k)]) ++ List.replicate (1 - (lg_sl ([.ref (E.2.2.2.1 k)])).length) Slot.unset).toArray = ls at hl ⊢
  have hfix : CallFix p m c cJ0_length_8abf5 1 s _ eAll "java/lang/String" := ⟨hx, hb, hml, hown, hts⟩
  have hl : lv_has ls 1 [(0, .ref (E.2.2.2.1 k))] := hl
  have s1 := sS_at hX hk
  refine lv_aload_n hx hb (pc := 0) (show decode cJ0_length_8abf5 0 = .ok (.aload_n 0, 1) by decide +kernel) rfl (lv_at hl 0 rfl) ?_
  refine vk_getf hx hb s1.2.2.1 hS hown (hts _ sL_value) (fun _ h => h) (pc := 1) (show decode cJ0_length_8abf5 1 = .ok (.getfield 9, 3) by decide +kernel) ?_
  refine va_tlen hx hb s1.2.2.2 hS rfl (pc := 4) (show decode cJ0_length_8abf5 4 = .ok (.arraylength, 1) by decide +kernel) ?_
  refine lv_aload_n hx hb (pc := 5) (show decode cJ0_length_8abf5 5 = .ok (.aload_n 0, 1) by decide +kernel) rfl (lv_at hl 0 rfl) ?_
  refine s_callV (n := 0) (As := []) (pc := 6) hfix sW_coder (s_coder l E A hk) hXU sM_coder.1 sM_coder.2 sW_i0 (by decide +kernel) (by show 0 + 1 ≤ 1; omega) (by show 8 + (1 + 11) + 39 * 0 ≤ 39 * 1; omega) (sRecv hX hk hS) rfl hl.1 (by show 1 ≤ 8; omega) (show decode cJ0_length_8abf5 6 = .ok (.invokevirtual 335, 3) by decide +kernel) ⟨Nat.zero_le _, Nat.zero_le _⟩ ?_
  refine lv_ishr hx hb (pc := 9) (show decode cJ0_length_8abf5 9 = .ok (.ishr, 1) by decide +kernel) ?_
  have hz : Int32.ofNat (eSl.getD k 0) >>> ((0 : Int32) &&& 31) = Int32.ofNat (eSl.getD k 0) := by
    rw [show ((0 : Int32) &&& 31) = 0 from rfl]
    exact Int32.shiftRight_zero
  rw [hz]
  exact W.iret hx hb hr (fun t ht hW => ⟨rfl, ht⟩) (fun _ h => by cases h) (pc := 10) (show decode cJ0_length_8abf5 10 = .ok (.ireturn, 1) by decide +kernel) hlocks
theorem s_check3N (l : Launch) (E : eE) (A : Nat → Prop) {x y : Int32} (hx0 : ¬ x < 0) (hxy : x < y) : Met l yJ3_checkIndex_8e157 (Cond.code yJ3_checkIndex_8e157 cJ3_checkIndex_8e157 3 (some .int) :: eAll) (sRm 0) (sPc E A [.int x, .int y, .null]) (sQc (some (.int x))) 0 0 (fun _ => False) := by
  refine Met.ofW (cc := cJ3_checkIndex_8e157) (maxL := 3) (ret := (some .int)) (by decide +kernel) rfl ?_
  intro p e s m args below meth c s₁ B hml hv
  obtain ⟨rfl, hX⟩ := hv
  have hx := B.exec
  have hb := B.bytes
  have hr := B.returns
  have hts : ∀ w ∈ eAll, w.before _ s = true := fun w hw => atoms_spec B.pre w (List.mem_cons_of_mem _ hw)
  have hown : s.vm.findClass "jdk/internal/util/Preconditions" = some m.cls := findClass_of_methodNamed B.named
  have hlocks := B.notSynchronized
  have hS : va_S A s.heap s.heap [] := va_S.rf
  have hXU : ∀ U : State, U.heap = s.heap → s.WarmedH U.vm → eX E A U := fun U h1 h2 => eX_at hX (H := s.heap) (Nat.le_refl _) (fun _ _ _ => rfl) h1 h2 (fun _ h => h)
  have hl := lv_entry ([.int x, .int y, .null]) (n := 3) (Nat.le_of_ble_eq_true rfl)
  rw [lg_entry_eq]
  generalize (lg_sl ([.int x, .int y, .null]) ++ List.replicate (3 - (lg_sl ([.int x, .int y, .null])).length) Slot.unset).toArray = ls at hl ⊢
  have hl : lv_has ls 3 [(0, .int x), (1, .int y), (2, .null)] := hl
  refine lv_iload_n hx hb (pc := 0) (show decode cJ3_checkIndex_8e157 0 = .ok (.iload_n 0, 1) by decide +kernel) rfl (lv_at hl 0 rfl) ?_
  refine lv_if_lt hx hb (tgt := 9) (pc := 1) (show decode cJ3_checkIndex_8e157 1 = .ok (.ifCond .lt 8, 3) by decide +kernel) rfl (fun h => absurd h hx0) (fun _ => ?_)
  refine lv_iload_n hx hb (pc := 4) (show decode cJ3_checkIndex_8e157 4 = .ok (.iload_n 0, 1) by decide +kernel) rfl (lv_at hl 0 rfl) ?_
  refine lv_iload_n hx hb (pc := 5) (show decode cJ3_checkIndex_8e157 5 = .ok (.iload_n 1, 1) by decide +kernel) rfl (lv_at hl 1 rfl) ?_
  refine lv_icmp_lt hx hb (tgt := 16) (pc := 6) (show decode cJ3_checkIndex_8e157 6 = .ok (.if_icmp .lt 10, 3) by decide +kernel) rfl (fun _ => ?_) (fun h => absurd hxy h)
  refine lv_iload_n hx hb (pc := 16) (show decode cJ3_checkIndex_8e157 16 = .ok (.iload_n 0, 1) by decide +kernel) rfl (lv_at hl 0 rfl) ?_
  exact W.iret hx hb hr (fun t ht hW => ⟨rfl, ht⟩) (fun _ h => by cases h) (pc := 17) (show decode cJ3_checkIndex_8e157 17 = .ok (.ireturn, 1) by decide +kernel) hlocks
theorem s_check3R (l : Launch) (E : eE) (A : Nat → Prop) {x y : Int32} {v : Nat} (hx0 : ¬ x < 0) (hxy : x < y) : Met l yJ3_checkIndex_8e157 (Cond.code yJ3_checkIndex_8e157 cJ3_checkIndex_8e157 3 (some .int) :: eAll) (sRm 0) (sPc E A [.int x, .int y, .ref v]) (sQc (some (.int x))) 0 0 (fun _ => False) := by
  refine Met.ofW (cc := cJ3_checkIndex_8e157) (maxL := 3) (ret := (some .int)) (by decide +kernel) rfl ?_
  intro p e s m args below meth c s₁ B hml hv
  obtain ⟨rfl, hX⟩ := hv
  have hx := B.exec
  have hb := B.bytes
  have hr := B.returns
  have hts : ∀ w ∈ eAll, w.before _ s = true := fun w hw => atoms_spec B.pre w (List.mem_cons_of_mem _ hw)
  have hown : s.vm.findClass "jdk/internal/util/Preconditions" = some m.cls := findClass_of_methodNamed B.named
  have hlocks := B.notSynchronized
  have hS : va_S A s.heap s.heap [] := va_S.rf
  have hXU : ∀ U : State, U.heap = s.heap → s.WarmedH U.vm → eX E A U := fun U h1 h2 => eX_at hX (H := s.heap) (Nat.le_refl _) (fun _ _ _ => rfl) h1 h2 (fun _ h => h)
  have hl := lv_entry ([.int x, .int y, .ref v]) (n := 3) (Nat.le_of_ble_eq_true rfl)
  rw [lg_entry_eq]
  generalize (lg_sl ([.int x, .int y, .ref v]) ++ List.replicate (3 - (lg_sl ([.int x, .int y, .ref v])).length) Slot.unset).toArray = ls at hl ⊢
  have hl : lv_has ls 3 [(0, .int x), (1, .int y), (2, .ref v)] := hl
  refine lv_iload_n hx hb (pc := 0) (show decode cJ3_checkIndex_8e157 0 = .ok (.iload_n 0, 1) by decide +kernel) rfl (lv_at hl 0 rfl) ?_
  refine lv_if_lt hx hb (tgt := 9) (pc := 1) (show decode cJ3_checkIndex_8e157 1 = .ok (.ifCond .lt 8, 3) by decide +kernel) rfl (fun h => absurd h hx0) (fun _ => ?_)
  refine lv_iload_n hx hb (pc := 4) (show decode cJ3_checkIndex_8e157 4 = .ok (.iload_n 0, 1) by decide +kernel) rfl (lv_at hl 0 rfl) ?_
  refine lv_iload_n hx hb (pc := 5) (show decode cJ3_checkIndex_8e157 5 = .ok (.iload_n 1, 1) by decide +kernel) rfl (lv_at hl 1 rfl) ?_
  refine lv_icmp_lt hx hb (tgt := 16) (pc := 6) (show decode cJ3_checkIndex_8e157 6 = .ok (.if_icmp .lt 10, 3) by decide +kernel) rfl (fun _ => ?_) (fun h => absurd hxy h)
  refine lv_iload_n hx hb (pc := 16) (show decode cJ3_checkIndex_8e157 16 = .ok (.iload_n 0, 1) by decide +kernel) rfl (lv_at hl 0 rfl) ?_
  exact W.iret hx hb hr (fun t ht hW => ⟨rfl, ht⟩) (fun _ h => by cases h) (pc := 17) (show decode cJ3_checkIndex_8e157 17 = .ok (.ireturn, 1) by decide +kernel) hlocks
theorem s_check3 (l : Launch) (E : eE) (A : Nat → Prop) {x y : Int32} {v : Value} (hv9 : v = .null ∨ ∃ q, v = .ref q) (hx0 : ¬ x < 0) (hxy : x < y) : Met l yJ3_checkIndex_8e157 (Cond.code yJ3_checkIndex_8e157 cJ3_checkIndex_8e157 3 (some .int) :: eAll) (sRm 0) (sPc E A [.int x, .int y, v]) (sQc (some (.int x))) 0 0 (fun _ => False) := by
  rcases hv9 with rfl | ⟨q, rfl⟩
  · exact s_check3N l E A hx0 hxy
  · exact s_check3R l E A hx0 hxy
theorem s_check0 (l : Launch) (E : eE) (A : Nat → Prop) {x y : Int32} (hx0 : ¬ x < 0) (hxy : x < y) : Met l yJ0_checkIndex_df160 (Cond.code yJ0_checkIndex_df160 cJ0_checkIndex_df160 2 none :: eAll) (sRm 1) (sPc E A [.int x, .int y]) (sQc none) 0 0 (fun _ => False) := by
  refine Met.ofW (cc := cJ0_checkIndex_df160) (maxL := 2) (ret := none) (by decide +kernel) rfl ?_
  intro p e s m args below meth c s₁ B hml hv
  obtain ⟨rfl, hX⟩ := hv
  have hx := B.exec
  have hb := B.bytes
  have hr := B.returns
  have hts : ∀ w ∈ eAll, w.before _ s = true := fun w hw => atoms_spec B.pre w (List.mem_cons_of_mem _ hw)
  have hown : s.vm.findClass "java/lang/String" = some m.cls := findClass_of_methodNamed B.named
  have hlocks := B.notSynchronized
  have hS : va_S A s.heap s.heap [] := va_S.rf
  have hXU : ∀ U : State, U.heap = s.heap → s.WarmedH U.vm → eX E A U := fun U h1 h2 => eX_at hX (H := s.heap) (Nat.le_refl _) (fun _ _ _ => rfl) h1 h2 (fun _ h => h)
  have hl := lv_entry ([.int x, .int y]) (n := 2) (Nat.le_of_ble_eq_true rfl)
  rw [lg_entry_eq]
  generalize (lg_sl ([.int x, .int y]) ++ List.replicate (2 - (lg_sl ([.int x, .int y])).length) Slot.unset).toArray = ls at hl ⊢
  have hfix : CallFix p m c cJ0_checkIndex_df160 2 s _ eAll "java/lang/String" := ⟨hx, hb, hml, hown, hts⟩
  have hl : lv_has ls 2 [(0, .int x), (1, .int y)] := hl
  have s4 := hX.2.2.2.2.2.2.1.2.2.2
  refine lv_iload_n hx hb (pc := 0) (show decode cJ0_checkIndex_df160 0 = .ok (.iload_n 0, 1) by decide +kernel) rfl (lv_at hl 0 rfl) ?_
  refine lv_iload_n hx hb (pc := 1) (show decode cJ0_checkIndex_df160 1 = .ok (.iload_n 1, 1) by decide +kernel) rfl (lv_at hl 1 rfl) ?_
  have go : ∀ v : Value, (v = .null ∨ ∃ q, v = .ref q) → va_Z "jdk/internal/util/Preconditions" "SIOOBE_FORMATTER" "Ljava/util/function/BiFunction;" v A s s.heap → W p l e (headSpec (Cond.code yJ0_checkIndex_df160 cJ0_checkIndex_df160 2 none :: eAll) (sRm 1)).room s m #[.int x, .int y] below meth c s.heap [] 0 0 (MQ below (sQc none) #[.int x, .int y] s 0 0 (fun _ => False)) (F0 m 2 ls [.int y, .int x]) := by
    intro v hv9 hz
    refine va_gets hx hb hz hS hown (hts _ sL_siobe) (fun _ h => h) (pc := 2) (show decode cJ0_checkIndex_df160 2 = .ok (.getstatic 1053, 3) by decide +kernel) ?_
    refine s_callS (n := 3) (As := [.int x, .int y, v]) (rest := []) (pc := 5) hfix sW_check3 (s_check3 l E A hv9 hx0 hxy) hXU sM_check3.1 sM_check3.2 sW_i3 (by decide +kernel) (by show 0 + 1 ≤ 1; omega) (by show 8 + (3 + 11) + 39 * 0 ≤ 39 * 1; omega) rfl hl.1 (by show 0 ≤ 8; omega) (show decode cJ0_checkIndex_df160 5 = .ok (.invokestatic 1059, 3) by decide +kernel) ⟨Nat.zero_le _, Nat.zero_le _⟩ ?_
    refine lv_pop hx hb (pc := 8) (show decode cJ0_checkIndex_df160 8 = .ok (.pop, 1) by decide +kernel) rfl ?_
    exact W.vret hx hb hr (fun t ht hW => ⟨rfl, ht⟩) (fun _ h => by cases h) (pc := 9) (show decode cJ0_checkIndex_df160 9 = .ok (.return_, 1) by decide +kernel) hlocks
  rcases s4 with hz | ⟨q, hz⟩
  · exact go _ (Or.inl rfl) hz
  · exact go _ (Or.inr ⟨q, rfl⟩) hz
theorem s_charAt1 (l : Launch) (E : eE) (A : Nat → Prop) {k : Nat} {x : Int32} (hk : k < 19) (hin : vp_in x (eSl.getD k 0)) : Met l yJ1_charAt_3b067 (Cond.code yJ1_charAt_3b067 cJ1_charAt_3b067 2 (some .char) :: eAll) (sRm 2) (sPc E A [.ref (E.2.2.2.2 k), .int x]) (sQc (some (.int ((eSb.getD k []).getD x.toNatClampNeg 0)))) 0 0 (fun _ => False) := by
  refine Met.ofW (cc := cJ1_charAt_3b067) (maxL := 2) (ret := (some .char)) (by decide +kernel) rfl ?_
  intro p e s m args below meth c s₁ B hml hv
  obtain ⟨rfl, hX⟩ := hv
  have hx := B.exec
  have hb := B.bytes
  have hr := B.returns
  have hts : ∀ w ∈ eAll, w.before _ s = true := fun w hw => atoms_spec B.pre w (List.mem_cons_of_mem _ hw)
  have hown : s.vm.findClass "java/lang/StringLatin1" = some m.cls := findClass_of_methodNamed B.named
  have hlocks := B.notSynchronized
  have hS : va_S A s.heap s.heap [] := va_S.rf
  have hXU : ∀ U : State, U.heap = s.heap → s.WarmedH U.vm → eX E A U := fun U h1 h2 => eX_at hX (H := s.heap) (Nat.le_refl _) (fun _ _ _ => rfl) h1 h2 (fun _ h => h)
  have hl := lv_entry ([.ref (E.2.2.2.2 k), .int x]) (n := 2) (Nat.le_of_ble_eq_true rfl)
  rw [lg_entry_eq]
  generalize (lg_sl ([.ref (E.2.2.2.2 k), .int x]) ++ List.replicate (2 - (lg_sl ([.ref (E.2.2.2.2 k), .int x])).length) Slot.unset).toArray = ls at hl ⊢
  have hfix : CallFix p m c cJ1_charAt_3b067 2 s _ eAll "java/lang/StringLatin1" := ⟨hx, hb, hml, hown, hts⟩
  have hl : lv_has ls 2 [(0, .ref (E.2.2.2.2 k)), (1, .int x)] := hl
  have s1 := sS_at hX hk
  have hn := sLen_at hk
  have hx1 : x.toNatClampNeg < eLen (eStr k) := by rw [← hn.1]; unfold vp_in at hin; omega
  have hx0 : ¬ x < 0 := fun h => hin (Or.inl h)
  refine lv_iload_n hx hb (pc := 0) (show decode cJ1_charAt_3b067 0 = .ok (.iload_n 1, 1) by decide +kernel) rfl (lv_at hl 1 rfl) ?_
  refine lv_aload_n hx hb (pc := 1) (show decode cJ1_charAt_3b067 1 = .ok (.aload_n 0, 1) by decide +kernel) rfl (lv_at hl 0 rfl) ?_
  refine va_tlen hx hb s1.2.2.2 hS rfl (pc := 2) (show decode cJ1_charAt_3b067 2 = .ok (.arraylength, 1) by decide +kernel) ?_
  have hlt : x < Int32.ofNat (eSl.getD k 0) := by
    rw [Int32.lt_iff_toInt_lt]
    have h2 : (Int32.ofNat (eSl.getD k 0)).toInt = ((eSl.getD k 0 : Nat) : Int) := nI_toInt (by omega)
    rw [h2]
    have h3 : ¬ x.toInt < 0 := fun h => hx0 (by rw [Int32.lt_iff_toInt_lt]; exact h)
    have h4 : x.toNatClampNeg = x.toInt.toNat := rfl
    omega
  refine s_callS (n := 2) (As := [.int x, .int (Int32.ofNat (eSl.getD k 0))]) (rest := []) (pc := 3) hfix sW_check0 (s_check0 l E A hx0 hlt) hXU sM_check0.1 sM_check0.2 sW_i0 (by decide +kernel) (by show 1 + 1 ≤ 2; omega) (by show 8 + (2 + 11) + 39 * 1 ≤ 39 * 2; omega) rfl hl.1 (by show 0 ≤ 8; omega) (show decode cJ1_charAt_3b067 3 = .ok (.invokestatic 9, 3) by decide +kernel) ⟨Nat.zero_le _, Nat.zero_le _⟩ ?_
  refine lv_aload_n hx hb (pc := 6) (show decode cJ1_charAt_3b067 6 = .ok (.aload_n 0, 1) by decide +kernel) rfl (lv_at hl 0 rfl) ?_
  refine lv_iload_n hx hb (pc := 7) (show decode cJ1_charAt_3b067 7 = .ok (.iload_n 1, 1) by decide +kernel) rfl (lv_at hl 1 rfl) ?_
  refine va_tb hx hb s1.2.2.2 hS hin rfl (pc := 8) (show decode cJ1_charAt_3b067 8 = .ok (.baload, 1) by decide +kernel) ?_
  refine lv_sipush hx hb (v := 255) (pc := 9) (show decode cJ1_charAt_3b067 9 = .ok (.sipush 255, 3) by decide +kernel) rfl ?_
  refine lv_iand hx hb (pc := 12) (show decode cJ1_charAt_3b067 12 = .ok (.iand, 1) by decide +kernel) ?_
  have hc := sCh_at hk hx1
  refine lv_i2c hx hb (pc := 13) (show decode cJ1_charAt_3b067 13 = .ok (.i2c, 1) by decide +kernel) hc.1 ?_
  exact W.zret hx hb hr hc.2 (fun t ht hW => ⟨rfl, ht⟩) (fun _ h => by cases h) (pc := 14) (show decode cJ1_charAt_3b067 14 = .ok (.ireturn, 1) by decide +kernel) hlocks
theorem s_charAt (l : Launch) (E : eE) (A : Nat → Prop) {k : Nat} {x : Int32} (hk : k < 19) (hin : vp_in x (eSl.getD k 0)) : Met l yJ0_charAt_5068e (Cond.code yJ0_charAt_5068e cJ0_charAt_5068e 2 (some .char) :: eAll) (sRm 3) (sPc E A [.ref (E.2.2.2.1 k), .int x]) (sQc (some (.int ((eSb.getD k []).getD x.toNatClampNeg 0)))) 0 0 (fun _ => False) := by
  refine Met.ofW (cc := cJ0_charAt_5068e) (maxL := 2) (ret := (some .char)) (by decide +kernel) rfl ?_
  intro p e s m args below meth c s₁ B hml hv
  obtain ⟨rfl, hX⟩ := hv
  have hx := B.exec
  have hb := B.bytes
  have hr := B.returns
  have hts : ∀ w ∈ eAll, w.before _ s = true := fun w hw => atoms_spec B.pre w (List.mem_cons_of_mem _ hw)
  have hown : s.vm.findClass "java/lang/String" = some m.cls := findClass_of_methodNamed B.named
  have hlocks := B.notSynchronized
  have hS : va_S A s.heap s.heap [] := va_S.rf
  have hXU : ∀ U : State, U.heap = s.heap → s.WarmedH U.vm → eX E A U := fun U h1 h2 => eX_at hX (H := s.heap) (Nat.le_refl _) (fun _ _ _ => rfl) h1 h2 (fun _ h => h)
  have hl := lv_entry ([.ref (E.2.2.2.1 k), .int x]) (n := 2) (Nat.le_of_ble_eq_true rfl)
  rw [lg_entry_eq]
  generalize (lg_sl ([.ref (E.2.2.2.1 k), .int x]) ++ List.replicate (2 - (lg_sl ([.ref (E.2.2.2.1 k), .int x])).length) Slot.unset).toArray = ls at hl ⊢
  have hfix : CallFix p m c cJ0_charAt_5068e 2 s _ eAll "java/lang/String" := ⟨hx, hb, hml, hown, hts⟩
  have hl : lv_has ls 2 [(0, .ref (E.2.2.2.1 k)), (1, .int x)] := hl
  have s1 := sS_at hX hk
  have hn := sLen_at hk
  have hx1 : x.toNatClampNeg < eLen (eStr k) := by rw [← hn.1]; unfold vp_in at hin; omega
  refine lv_aload_n hx hb (pc := 0) (show decode cJ0_charAt_5068e 0 = .ok (.aload_n 0, 1) by decide +kernel) rfl (lv_at hl 0 rfl) ?_
  refine s_callV (n := 0) (As := []) (rest := []) (pc := 1) hfix sW_isLatin1 (s_isLatin1 l E A hk) hXU sM_isLatin1.1 sM_isLatin1.2 sW_i0 (by decide +kernel) (by show 0 + 1 ≤ 3; omega) (by show 8 + (1 + 11) + 39 * 0 ≤ 39 * 3; omega) (sRecv hX hk hS) rfl hl.1 (by show 0 ≤ 8; omega) (show decode cJ0_charAt_5068e 1 = .ok (.invokevirtual 492, 3) by decide +kernel) ⟨Nat.zero_le _, Nat.zero_le _⟩ ?_
  refine lv_if_eq hx hb (tgt := 16) (pc := 4) (show decode cJ0_charAt_5068e 4 = .ok (.ifCond .eq 12, 3) by decide +kernel) rfl (fun h => by cases h) (fun _ => ?_)
  refine lv_aload_n hx hb (pc := 7) (show decode cJ0_charAt_5068e 7 = .ok (.aload_n 0, 1) by decide +kernel) rfl (lv_at hl 0 rfl) ?_
  refine vk_getf hx hb s1.2.2.1 hS hown (hts _ sL_value) (fun _ h => h) (pc := 8) (show decode cJ0_charAt_5068e 8 = .ok (.getfield 9, 3) by decide +kernel) ?_
  refine lv_iload_n hx hb (pc := 11) (show decode cJ0_charAt_5068e 11 = .ok (.iload_n 1, 1) by decide +kernel) rfl (lv_at hl 1 rfl) ?_
  refine s_callS (n := 2) (As := [.ref (E.2.2.2.2 k), .int x]) (rest := []) (pc := 12) hfix sW_charAt1 (s_charAt1 l E A hk hin) hXU sM_charAt1.1 sM_charAt1.2 sW_i1 (by decide +kernel) (by show 2 + 1 ≤ 3; omega) (by show 8 + (2 + 11) + 39 * 2 ≤ 39 * 3; omega) rfl hl.1 (by show 0 ≤ 8; omega) (show decode cJ0_charAt_5068e 12 = .ok (.invokestatic 495, 3) by decide +kernel) ⟨Nat.zero_le _, Nat.zero_le _⟩ ?_
  exact W.zret hx hb hr (sCh_at hk hx1).2 (fun t ht hW => ⟨rfl, ht⟩) (fun _ h => by cases h) (pc := 15) (show decode cJ0_charAt_5068e 15 = .ok (.ireturn, 1) by decide +kernel) hlocks
section StrOps
variable {p : Program} {l : Launch} {e : Env} {R : Room} {s : State} {m : MethodId} {args : Array Value} {below : List Frame} {meth : Method} {c : Code} {E : eE} {A : Nat → Prop} {X : List Nat × (Nat × Nat)} {r : (Option eV ⊕ Nat) × eW} {M pc len i a b : Nat} {ls : eL} {st : List eV} {w : eW} {J : eFn}
theorem eXU {H : Heap} {locs : List Loc} (hF : eFr p l R s m args meth c E A M) (hS : va_S A s.heap H locs) : ∀ U : State, U.heap = H → s.WarmedH U.vm → eX E A U := fun U hU hW => eX_at hF.2.2.2.2.2.2.2.2.2.2.2.1 (H := H) hS.1 hS.2.1 hU hW (fun _ h => h)
theorem o_strOp (hF : eFr p l R s m args meth c E A M) (hJ : ∀ (pc : Nat) (ls : eL) (st : List eV) (w : eW), J M pc ls st w = some r → eOk p l e R s m args below meth c E A X r M pc ls st w) (hR : r.2.2.1 ≤ R.cells + X.2.1 ∧ r.2.2.2 ≤ R.slots + X.2.2) (hd : decode (eByt M) pc = .ok (.invokevirtual i, 3)) (hk9 : eIn5 eMS (eOw M) i a 0 = true) (q : eStrOp J M pc a ls st w = some r) : eOk p l e R s m args below meth c E A X r M pc ls st w := by
  have hfr := hF.2.2.2.2.2.2.2.2.2.2.2.2.2.1
  have hlo := hF.2.2.2.2.2.2.2.2.2.2.2.2.2.2
  unfold eStrOp at q
  simp only [Bool.cond_eq_ite, Bool.and_eq_true, Nat.beq_eq] at q; split at q
  · rename_i ha
    subst ha
    split at q
    · rename_i k9 st
      split at q
      · rename_i ht
        have h6 := Nat.le_of_ble_eq_true ht.1
        have h8 := Nat.le_of_ble_eq_true ht.2.1
        have hk19 : k9 < 19 := (Nat.blt_eq).mp ht.2.2
        obtain ⟨hle, hk⟩ := hJ _ _ _ _ q
        refine ⟨hle, fun β ws H locs lsm stv kc ks hl hs hw hP hD hS h1 h2 => ?_⟩
        obtain ⟨_, _, rfl, rfl, hs1⟩ := sR_inv hs
        · refine s_callV (n := 0) (As := []) (eCfix hF) sW_length (s_length l E A hk19) (eXU hF hS) (eMS_in hk9) sM_length sW_i0 (by decide +kernel) (by omega) (by omega) (sRecv hF.2.2.2.2.2.2.2.2.2.2.2.1 hk19 hS) rfl hl.1 (by rw [sR_cats hs1]; exact h8) hd ⟨by omega, by omega⟩ ?_
          refine hk β ws H locs lsm _ kc ks hl ⟨?_, hs1⟩ hw hP hD hS h1 h2
          show Value.int _ = Value.int _
          rw [(sLen_at hk19).1, of_nat]
      · cases q
    · cases q
  · split at q
    · rename_i ha
      subst ha
      split at q
      · rename_i i9 k9 st
        split at q
        · rename_i ht
          split at q
          · rename_i hi
            have h6 := Nat.le_of_ble_eq_true ht.1
            have h8 := Nat.le_of_ble_eq_true ht.2
            have hk19 : k9 < 19 := by
              rcases Nat.lt_or_ge k9 19 with h | h
              · exact h
              · rw [sStr_19 k9 h] at hi
                exact absurd hi.2 (by show ¬ wr i9 < (0 : Nat); omega)
            obtain ⟨hle, hk⟩ := hJ _ _ _ _ q
            refine ⟨hle, fun β ws H locs lsm stv kc ks hl hs hw hP hD hS h1 h2 => ?_⟩
            obtain ⟨_, _, rfl, rfl, hs1⟩ := sR_inv hs
            obtain ⟨_, _, rfl, rfl, hs2⟩ := sR_inv hs1
            have hn := sLen_at hk19
            refine s_callV (n := 1) (As := [.int (Int32.ofInt i9)]) (eCfix hF) sW_charAt (s_charAt l E A hk19 (by rw [hn.1]; exact wr_in hi)) (eXU hF hS) (eMS_in hk9) sM_charAt sW_i0 (by decide +kernel) (by omega) (by omega) (sRecv hF.2.2.2.2.2.2.2.2.2.2.2.1 hk19 hS) rfl hl.1 (by rw [sR_cats hs2]; exact h8) hd ⟨by omega, by omega⟩ ?_
            refine hk β ws H locs lsm _ kc ks hl ⟨?_, hs2⟩ hw hP hD hS h1 h2
            show Value.int _ = Value.int _
            rw [wr_cl _ hi.1, sSb_at hk19 (by omega)]
          · cases q
        · cases q
      · cases q
    · cases q
end StrOps
