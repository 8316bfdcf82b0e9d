/-! One step of any method is the JVM's. -/
theorem eMS_344 : eMS.all (fun q => !(Nat.beq q.2.2.1 344) && (Nat.beq q.2.2.2.1 0 || (Nat.beq (eKd q.2.2.1) 2 || Nat.beq q.2.2.1 8))) = true := by decide +kernel
theorem eMS_lt {c i a b : Nat} (h : eIn5 eMS c i a b = true) (ha : a < 345) : a < 344 := by
  obtain ⟨p9, hp⟩ := eIn5_spec h
  have h1 := List.all_eq_true.mp eMS_344 _ hp
  simp only [Bool.and_eq_true, Bool.not_eq_true'] at h1
  have h2 : a ≠ 344 := fun e => by
    subst e
    cases h1.1
  omega
theorem eMS_n {c i a : Nat} (h : eIn5 eMS c i a 1 = true) (hk : eKd a = 0) : a = 8 := by
  obtain ⟨p9, hp⟩ := eIn5_spec h
  have h1 := List.all_eq_true.mp eMS_344 _ hp
  simp only [Bool.and_eq_true, Bool.or_eq_true, Nat.beq_eq, hk] at h1
  rcases h1.2 with h | h | h
  · cases h
  · cases h
  · exact h
section Step
variable {p : Program} {l : Launch} {e : Env} {R : Room} {s : State} {m : MethodId} {args : Array Value} {below : List Frame} {meth : Method} {c : Code} {E : eE} {A : Nat → Prop} {X : List Nat × (Nat × Nat)} {r : (Option eV ⊕ Nat) × eW} {M pc len i a b : Nat} {ls : eL} {st : List eV} {w : eW} {J : eFn}
set_option maxHeartbeats 4000000 in
theorem eStep_ok {C : eFn} {ins : Instr} (hF : eFr p l R s m args meth c E A M) (hJ : ∀ (pc : Nat) (ls : eL) (st : List eV) (w : eW), J M pc ls st w = some r → eOk p l e R s m args below meth c E A X r M pc ls st w) (hst : l.stackTraces = false) (hC : ∀ (y : Nat) (as : List eV) (w : eW) (r : (Option eV ⊕ Nat) × eW), y < 344 → C y 0 (eArgs as) [] w = some r → eCon l y as w r) (hR : r.2.2.1 ≤ R.cells + X.2.1 ∧ r.2.2.2 ≤ R.slots + X.2.2) (hM : M < 345) (hpc : pc < eLB M)
    (hl : (match ins with
    | .tableswitch _ _ _ _ => true
    | _ => Nat.beq len (eLn ins)) = true) (hd : decode (eByt M) pc = .ok (ins, len)) (hj : eChkJ M pc ins len a b = true) (q : eStep J C J M pc ls st w ins len a b = some r) : eOk p l e R s m args below meth c E A X r M pc ls st w := by
  cases ins
  case iconst n => obtain rfl := Nat.eq_of_beq_eq_true hl; exact o_iconst hF hJ hd q
  case bipush n => obtain rfl := Nat.eq_of_beq_eq_true hl; exact o_bipush hF hJ hd (of_decide_eq_true hj) q
  case sipush n => obtain rfl := Nat.eq_of_beq_eq_true hl; exact o_sipush hF hJ hd (of_decide_eq_true hj) q
  case ldc i => obtain rfl := Nat.eq_of_beq_eq_true hl; exact o_ldc hF hJ hd hj q
  case ldc_w i => obtain rfl := Nat.eq_of_beq_eq_true hl; exact o_ldcw hF hJ hd hj q
  case lconst n => obtain rfl := Nat.eq_of_beq_eq_true hl; exact o_lconst hF hJ hd q
  case fconst n =>
    obtain rfl := Nat.eq_of_beq_eq_true hl
    unfold eStep at q
    simp only [Bool.cond_eq_ite, Nat.beq_eq] at q; split at q
    · rename_i hn
      exact o_fconst hF hJ hd hn q
    · cases q
  case dconst n =>
    obtain rfl := Nat.eq_of_beq_eq_true hl
    unfold eStep at q
    simp only [Bool.cond_eq_ite, Nat.beq_eq] at q; split at q
    · rename_i hn
      exact o_dconst hF hJ hd hn q
    · cases q
  case aconst_null => obtain rfl := Nat.eq_of_beq_eq_true hl; exact o_null hF hJ hd q
  case iload i => obtain rfl := Nat.eq_of_beq_eq_true hl; exact o_iload hF hJ hd q
  case iload_n i => obtain rfl := Nat.eq_of_beq_eq_true hl; exact o_iload_n hF hJ hd q
  case aload i => obtain rfl := Nat.eq_of_beq_eq_true hl; exact o_aload hF hJ hd q
  case aload_n i => obtain rfl := Nat.eq_of_beq_eq_true hl; exact o_aload_n hF hJ hd q
  case dload i => obtain rfl := Nat.eq_of_beq_eq_true hl; exact o_dload hF hJ hd q
  case istore i => obtain rfl := Nat.eq_of_beq_eq_true hl; exact o_istore hF hJ hd ((Nat.blt_eq).mp hj) q
  case istore_n i => obtain rfl := Nat.eq_of_beq_eq_true hl; exact o_istore_n hF hJ hd ((Nat.blt_eq).mp hj) q
  case astore i => obtain rfl := Nat.eq_of_beq_eq_true hl; exact o_astore hF hJ hd ((Nat.blt_eq).mp hj) q
  case astore_n i => obtain rfl := Nat.eq_of_beq_eq_true hl; exact o_astore_n hF hJ hd ((Nat.blt_eq).mp hj) q
  case dstore i => obtain rfl := Nat.eq_of_beq_eq_true hl; exact o_dstore hF hJ hd ((Nat.blt_eq).mp hj) q
  case iinc i n =>
    obtain rfl := Nat.eq_of_beq_eq_true hl
    unfold eStep at q
    dsimp only at q
    split at q
    · rename_i x hx
      simp only [Bool.cond_eq_ite] at q; split at q
      · rename_i hb
        exact o_iinc hF hJ hd ((Nat.blt_eq).mp hj) hx hb q
      · cases q
    · cases q
  case iadd => obtain rfl := Nat.eq_of_beq_eq_true hl; exact o_iadd hF hJ hd q
  case isub => obtain rfl := Nat.eq_of_beq_eq_true hl; exact o_isub hF hJ hd q
  case imul => obtain rfl := Nat.eq_of_beq_eq_true hl; exact o_imul hF hJ hd q
  case iand => obtain rfl := Nat.eq_of_beq_eq_true hl; exact o_iand hF hJ hd q
  case ior => obtain rfl := Nat.eq_of_beq_eq_true hl; exact o_ior hF hJ hd q
  case ixor => obtain rfl := Nat.eq_of_beq_eq_true hl; exact o_ixor hF hJ hd q
  case ishl => obtain rfl := Nat.eq_of_beq_eq_true hl; exact o_ishl hF hJ hd q
  case ishr => obtain rfl := Nat.eq_of_beq_eq_true hl; exact o_ishr hF hJ hd q
  case iushr => obtain rfl := Nat.eq_of_beq_eq_true hl; exact o_iushr hF hJ hd q
  case idiv =>
    obtain rfl := Nat.eq_of_beq_eq_true hl
    unfold eStep at q; dsimp only at q; split at q
    · split at q
      · cases q
      · rename_i h; exact o_idiv hF hJ hd h q
    · cases q
  case irem =>
    obtain rfl := Nat.eq_of_beq_eq_true hl
    unfold eStep at q; dsimp only at q; split at q
    · split at q
      · cases q
      · rename_i h; exact o_irem hF hJ hd h q
    · cases q
  case i2l =>
    obtain rfl := Nat.eq_of_beq_eq_true hl
    unfold eStep at q; dsimp only at q; split at q
    · exact o_i2l hF hJ hd q
    · cases q
  case i2b =>
    obtain rfl := Nat.eq_of_beq_eq_true hl
    unfold eStep at q; dsimp only at q; split at q
    · exact o_i2b hF hJ hd q
    · cases q
  case i2f =>
    obtain rfl := Nat.eq_of_beq_eq_true hl
    unfold eStep at q; dsimp only at q; split at q
    · exact o_i2f hF hJ hd q
    · cases q
  case i2d =>
    obtain rfl := Nat.eq_of_beq_eq_true hl
    unfold eStep at q; dsimp only at q; split at q
    · exact o_i2d hF hJ hd q
    · cases q
  case f2d =>
    obtain rfl := Nat.eq_of_beq_eq_true hl
    unfold eStep at q; dsimp only at q; split at q
    · split at q
      · rename_i h; exact o_f2d hF hJ hd h q
      · cases q
    · cases q
  case fdiv =>
    obtain rfl := Nat.eq_of_beq_eq_true hl
    unfold eStep at q; dsimp only at q; split at q
    · split at q
      · rename_i h; exact o_fdiv hF hJ hd h q
      · cases q
    · cases q
  case ddiv =>
    obtain rfl := Nat.eq_of_beq_eq_true hl
    unfold eStep at q; dsimp only at q; split at q
    · split at q
      · rename_i h; exact o_ddiv hF hJ hd h q
      · cases q
    · cases q
  case dcmp op =>
    obtain rfl := Nat.eq_of_beq_eq_true hl
    unfold eStep at q; dsimp only at q; split at q
    · exact o_dcmp hF hJ hd q
    · cases q
  case lcmp =>
    obtain rfl := Nat.eq_of_beq_eq_true hl
    unfold eStep at q; dsimp only at q; split at q
    · exact o_lcmp hF hJ hd q
    · cases q
  case ifCond cd o => obtain rfl := Nat.eq_of_beq_eq_true hl; exact o_br hF hJ hd (of_decide_eq_true hj) q
  case if_icmp cd o => obtain rfl := Nat.eq_of_beq_eq_true hl; exact o_br2 hF hJ hd (of_decide_eq_true hj) q
  case ifnull o => obtain rfl := Nat.eq_of_beq_eq_true hl; exact o_ifnull hF hJ hd (of_decide_eq_true hj) q
  case ifnonnull o => obtain rfl := Nat.eq_of_beq_eq_true hl; exact o_ifnonnull hF hJ hd (of_decide_eq_true hj) q
  case goto o => obtain rfl := Nat.eq_of_beq_eq_true hl; exact o_goto hF hJ hd (of_decide_eq_true hj) q
  case tableswitch d lo hi offs =>
    unfold eChkJ at hj
    simp only [Bool.and_eq_true, decide_eq_true_eq] at hj
    have ho : ∀ o ∈ offs.toList, 0 ≤ (pc : Int) + o := fun o h => of_decide_eq_true (List.all_eq_true.mp hj.2 o h)
    unfold eStep at q; dsimp only at q; split at q
    · exact o_table hF hJ hd hj.1 ho q
    · cases q
  case dup =>
    obtain rfl := Nat.eq_of_beq_eq_true hl
    unfold eStep at q; dsimp only at q; split at q
    · simp only [Bool.cond_eq_ite] at q; split at q
      · rename_i h; exact o_dup hF hJ hd (Nat.eq_of_beq_eq_true h) q
      · cases q
    · cases q
  case dup2 =>
    obtain rfl := Nat.eq_of_beq_eq_true hl
    unfold eStep at q; dsimp only at q; split at q
    · simp only [Bool.cond_eq_ite, Bool.and_eq_true] at q; split at q
      · rename_i h; exact o_dup2 hF hJ hd (Nat.eq_of_beq_eq_true h.1) (Nat.eq_of_beq_eq_true h.2) q
      · cases q
    · cases q
  case pop =>
    obtain rfl := Nat.eq_of_beq_eq_true hl
    unfold eStep at q; dsimp only at q; split at q
    · simp only [Bool.cond_eq_ite] at q; split at q
      · rename_i h; exact o_pop hF hJ hd (Nat.eq_of_beq_eq_true h) q
      · cases q
    · cases q
  case getfield i =>
    obtain rfl := Nat.eq_of_beq_eq_true hl
    unfold eChkJ at hj
    simp only [Bool.and_eq_true, Nat.blt_eq] at hj
    exact o_getfield hF hJ hd hj.1 hj.2.1 hj.2.2 q
  case putfield i =>
    obtain rfl := Nat.eq_of_beq_eq_true hl
    unfold eChkJ at hj
    rw [Bool.and_eq_true, Bool.and_eq_true, Bool.and_eq_true, Bool.and_eq_true] at hj
    exact o_putfield hF hJ hd hj.1 ((Nat.blt_eq).mp hj.2.1) ((Nat.blt_eq).mp hj.2.2.1) hj.2.2.2.1 hj.2.2.2.2 q
  case iaload => obtain rfl := Nat.eq_of_beq_eq_true hl; exact o_iaload hF hJ hd q
  case baload => obtain rfl := Nat.eq_of_beq_eq_true hl; exact o_baload hF hJ hd q
  case laload => obtain rfl := Nat.eq_of_beq_eq_true hl; exact o_laload hF hJ hd q
  case iastore =>
    obtain rfl := Nat.eq_of_beq_eq_true hl
    unfold eStep at q; dsimp only at q; split at q
    · exact o_iastore hF hJ hd q
    · cases q
  case lastore =>
    obtain rfl := Nat.eq_of_beq_eq_true hl
    unfold eStep at q; dsimp only at q; split at q
    · exact o_lastore hF hJ hd q
    · cases q
  case bastore =>
    obtain rfl := Nat.eq_of_beq_eq_true hl
    unfold eStep at q; dsimp only at q; split at q
    · split at q
      · rename_i h; exact o_bastore1 hF hJ hd h q
      · simp only [Bool.cond_eq_ite] at q; split at q
        · exact o_bastore3 hF hJ hd q
        · split at q
          · rename_i h; exact o_bastore2 hF hJ hd h q
          · cases q
    · cases q
  case aaload => obtain rfl := Nat.eq_of_beq_eq_true hl; exact o_aaload hF hJ hd q
  case aastore => obtain rfl := Nat.eq_of_beq_eq_true hl; exact o_aastore hF hJ hd q
  case arraylength => obtain rfl := Nat.eq_of_beq_eq_true hl; exact o_arraylength hF hJ hd q
  case newarray t => obtain rfl := Nat.eq_of_beq_eq_true hl; cases t <;> exact o_newarray hF hJ hR hd q
  case anewarray i => obtain rfl := Nat.eq_of_beq_eq_true hl; exact o_anewarray hF hJ hR hd hj q
  case new i =>
    obtain rfl := Nat.eq_of_beq_eq_true hl
    unfold eChkJ at hj
    have q : eNew J M pc a ls st w = some r := q
    unfold eNew at q
    rw [Bool.and_eq_true] at hj
    obtain ⟨hj1, hj2⟩ := hj
    cases hb : Nat.blt a 100 with
    | true =>
      rw [hb] at hj2 q
      exact o_new hF hJ hR hd hj1 ((Nat.blt_eq).mp hj2) q
    | false =>
      rw [hb] at hj2 q
      rw [cond_false] at hj2 q
      rw [Bool.and_eq_true, Bool.and_eq_true, Bool.and_eq_true, Bool.and_eq_true] at hj2
      obtain ⟨h1, h2, h3, h4, h5⟩ := hj2
      have ha1 : ¬ a < 100 := fun h => by rw [(Nat.blt_eq).mpr h] at hb; cases hb
      split at h3
      · rename_i j kp9 y b9 hy
        simp only [Bool.and_eq_true] at h3
        obtain rfl := Nat.eq_of_beq_eq_true h3.1
        have hd4 : decode (eByt M) (pc + 4) = .ok (.invokespecial j, 3) := by
          have h9 := eChk_all M (pc + 4)
          unfold eChk at h9
          rw [hy] at h9
          dsimp only at h9
          rw [Bool.and_eq_true] at h9
          exact of_decide_eq_true h9.1
        exact o_throw hF hst hM hR hd (of_decide_eq_true h2) hd4 (of_decide_eq_true h4) hj1 h3.2 (Nat.eq_of_beq_eq_true h5) (by omega) ((Nat.blt_eq).mp h1) q
      · cases h3
  case invokestatic i =>
    obtain rfl := Nat.eq_of_beq_eq_true hl
    unfold eChkJ at hj
    dsimp only at hj
    unfold eStep at q
    dsimp only at q
    cases hb : Nat.blt a 2000 with
    | true =>
      rw [hb, cond_true] at hj q
      rw [Bool.and_eq_true, Bool.and_eq_true, Bool.and_eq_true] at hj
      exact o_callT hF hJ hC hR (eMS_lt hj.2.1 ((Nat.blt_eq).mp hj.1)) hd hj.2.1 (Nat.eq_of_beq_eq_true hj.2.2.1) (Nat.eq_of_beq_eq_true hj.2.2.2) q
    | false =>
      rw [hb, cond_false] at hj q
      unfold eStaOp at q
      simp only [Bool.cond_eq_ite, Nat.beq_eq, Bool.and_eq_true] at q
      split at q
      · rename_i h
        subst h
        split at q
        · split at q
          · rename_i ht; exact o_max hF hJ hR hd hj ht q
          · cases q
        · cases q
      · split at q
        · rename_i h
          subst h
          split at q
          · split at q
            · rename_i ht; exact o_min hF hJ hR hd hj ht q
            · cases q
          · cases q
        · split at q
          · rename_i h
            obtain ⟨rfl, h3⟩ := h
            exact o_copy hF hJ hd hj h3 q
          · cases q
  case invokevirtual i =>
    obtain rfl := Nat.eq_of_beq_eq_true hl
    unfold eChkJ at hj
    dsimp only at hj
    unfold eStep at q
    dsimp only at q
    cases hb : Nat.blt a 2000 with
    | true =>
      rw [hb, cond_true] at hj q
      rw [Bool.and_eq_true, Bool.and_eq_true, Bool.and_eq_true, Bool.and_eq_true, Bool.or_eq_true] at hj
      obtain ⟨h1, h2, h3, h4, h5⟩ := hj
      have hkd := Nat.eq_of_beq_eq_true h3
      have hnb := Nat.eq_of_beq_eq_true h4
      have hcl := Nat.eq_of_beq_eq_true h5
      have h1 := (Nat.blt_eq).mp h1
      have ha : a < 344 := by
        rcases h2 with h | h
        · exact eMS_lt h h1
        · exact eMS_lt h h1
      cases h8 : Nat.beq a 8 with
      | true =>
        rw [h8, cond_true] at q
        exact o_callI hF hJ hC hR ha hnb (eNar_v a (by omega) (by omega)) hcl (fun h9 hm hp hn hs hw hf => eRunV hF ha hkd h2 h9 hm hp hn hs hw hd hf) q
      | false =>
        rw [h8, cond_false] at q
        have h2 : eIn5 eMS (eOw M) i a 0 = true := by
          rcases h2 with h | h
          · exact h
          · have := eMS_n h hkd
            subst this
            cases h8
        exact o_callW hF hJ hC hR hM hpc ha hd h2 hkd hnb (eNar_v a (by omega) (by omega)) hcl q
    | false =>
      rw [hb, cond_false] at hj q
      exact o_strOp hF hJ hR hd hj q
  case invokespecial i =>
    obtain rfl := Nat.eq_of_beq_eq_true hl
    unfold eChkJ at hj
    dsimp only at hj
    unfold eStep at q
    dsimp only at q
    cases hb : Nat.blt a 2000 with
    | true =>
      rw [hb, cond_true] at hj q
      rw [Bool.and_eq_true, Bool.and_eq_true, Bool.and_eq_true, Bool.and_eq_true, Bool.or_eq_true] at hj
      obtain ⟨h1, h2, h3, h4, h5⟩ := hj
      have hkd := Nat.eq_of_beq_eq_true h3
      have hnb := Nat.eq_of_beq_eq_true h4
      have hcl := Nat.eq_of_beq_eq_true h5
      have h1 := (Nat.blt_eq).mp h1
      have ha : a < 344 := by
        rcases h2 with h | h
        · exact eMS_lt h h1
        · exact eMS_lt h h1
      exact o_callI hF hJ hC hR ha hnb (eNar_v a (by omega) (by omega)) hcl (fun h9 hm hp hn hs hw hf => eRunI hF ha hkd h2 h9 hm ⟨hp.1, hp.2.2⟩ hn hs hw hd hf) q
    | false =>
      rw [hb, cond_false] at hj q
      cases h5 : Nat.beq a 2005 with
      | true =>
        rw [h5, cond_true] at q
        obtain rfl := Nat.eq_of_beq_eq_true h5
        exact o_objInit hF hJ hd hj q
      | false =>
        rw [h5, cond_false] at q
        cases q
  case ireturn => obtain rfl := Nat.eq_of_beq_eq_true hl; exact o_iret hF hM hR hd q
  case areturn => obtain rfl := Nat.eq_of_beq_eq_true hl; exact o_aret hF hM hR hd q
  case freturn => obtain rfl := Nat.eq_of_beq_eq_true hl; exact o_fret hF hM hR hd q
  case dreturn => obtain rfl := Nat.eq_of_beq_eq_true hl; exact o_dret hF hM hR hd q
  case return_ => obtain rfl := Nat.eq_of_beq_eq_true hl; exact o_vret hF hM hR hd q
  all_goals (unfold eStep at q; dsimp only at q; cases q)
end Step
