/-! THE CLAIM OUT OF ONE WALK OF THE LAW'S BODY. Your part is whole_start (and what it stands on); all else here is the same for every law, but numbers. -/
def R_law : String := "ShopCrossLaw"
def lw_P (b : Addr) (xs : List Int32) (args : Array Value) (s : State) : Prop := args = #[.ref b] ∧ s.IntsAt b xs ∧ xs.length ≤ 3072 ∧ (Jvm.Cond.and given_1 narrow_1).before args s = true
/-- what a walk over the start with the record d0 says of its end, said of the start itself -/
theorem lw_closed {s t : State} {o : Outcome} {d0 : Drawn} {L : List Loc} {k n : Nat} (hd0 : s.drawn.sameBut d0 lw_cs) (hv : ∃ v, o = .returned v) (hW : (s.setDrawn d0).WarmedH t.vm) (hs : (s.setDrawn d0).sameButNew ({ t with vm := s.vm } : State) L k n) : State.butDraws s t lw_cs (fun t1 => Framed s o t1 L k n) := by
  have h2 : t.drawn = d0 := congrArg State.drawn hs.1
  refine ⟨⟨hv, hW, State.sameButNew.setDrawn hs s.drawn⟩, ?_, by decide⟩
  rw [h2]
  exact hd0
def lw_Q (_ : Array Value) (s : State) (o : Outcome) (t : State) : Prop := o = .returned (some (.int 1)) ∧ State.butDraws s t lw_cs (fun t1 => Framed s o t1 [] 601024 7293034)
def lw_Z (below : List Frame) (a : Array Value) (s : State) : State → Prop := fun t => ∃ o, t.status = .running ∧ Ended t below o ∧ lw_Q a s o t
/-- the law's own end, with 1 on the stack, nothing written that was there before, its room as the claim has it; d0: the record of draws at this point (at the entry s.drawn: begin with 'refine W.base ?_' and 'have hd0 := Drawn.sameBut.refl s.drawn lw_cs') -/
theorem lw_ret {p : Program} {l : Launch} {e : Env} {s : State} {m : MethodId} {below : List Frame} {meth : Method} {c : Code} {b : Nat} {d0 : Drawn} (hd0 : s.drawn.sameBut d0 lw_cs) (hx : p.tables.exec = Jvm.exec) (hb : c.code = code) (hr : meth.sig.returnType = ret) (hlocks : meth.locks = false) {pc : Nat} {H : Heap} {ls : Array Slot} (hdg : decode code pc = .ok (.ireturn, 1)) : W p l e room_1 (s.setDrawn d0) m #[Value.ref b] below meth c H [] 601024 7293034 (lw_Z below #[Value.ref b] s) (F0 m pc ls [.int 1]) := by
  intro T hT X
  obtain ⟨fs, hret, hrun, hended, hW, hframe⟩ := X.leave (v := some (.int 1)) (hlocks := hlocks) (fun h => by rw [hr] at h; cases h)
  have hmeth' : T.vm.method? m = some meth := X.method'
  refine ⟨T.setFrames fs, ?_, .returned (some (.int 1)), hrun, hended, rfl, lw_closed hd0 ⟨_, rfl⟩ hW hframe⟩
  jvm_step X.here [X.here.top, hx, hb, hdg, hmeth', hr, ret, narrow_b1]
  (try refine ⟨rfl, ?_⟩); (try refine ⟨rfl, ?_⟩)
  first | (intro acts; rw [hret _ acts rfl rfl rfl]) | rw [hret _ _ rfl rfl rfl]
  exact Steps.refl _
/-- what holds at the law's entry: the machine, the code, the tables' words (any of lw_tbl by 'hts w (by decide +kernel)'), the script of L ints xs at the cell b, what the Statement gives of the start (any of its parts by flat_of_before) -/
def lw_At (p : Program) (s : State) (m : MethodId) (meth : Method) (c : Code) (b L : Nat) (xs : Nat → Int32) : Prop :=
  p.tables.exec = Jvm.exec ∧ c.code = code ∧ meth.sig.returnType = ret ∧ c.maxLocals = 9 ∧ s.vm.findClass R_law = some m.cls ∧ (∀ w ∈ lw_tbl, w.before #[Value.ref b] s = true) ∧ va_X b L xs s s.heap ∧ b < s.heap.size ∧ meth.locks = false ∧ (Jvm.Cond.and given_1 narrow_1).before #[Value.ref b] s = true
/-! The law's entry: a run of the pure machine is the claim. -/
def eSo (k : Nat) : Nat × Nat := match eSS.find? (fun q => Nat.beq q.2.2.1 k) with
  | some q => (q.1, q.2.1)
  | none => (0, 0)
theorem eSS_ok : eSS.all (fun q => decide (lw_tbl[q.2.2.2]? = some (.stringRef (eCN q.1) q.2.1 (eTx q.2.2.1))) && (decide (eSo q.2.2.1 = (q.1, q.2.1)) && Nat.blt q.2.2.1 19)) = true := by decide +kernel
def eSv (k : Nat) : Term := .field (.string (eCN (eSo k).1) (eSo k).2) "java/lang/String" "value" "[B"
def eSws (k : Nat) : List Cond := .exactly (.string (eCN (eSo k).1) (eSo k).2) "java/lang/String" :: .eq (.field (.string (eCN (eSo k).1) (eSo k).2) "java/lang/String" "coder" "B") (.int 0) :: .arrayOf (eSv k) .byte :: .eq (.length (eSv k)) (.int (Int32.ofNat (eSl.getD k 0))) :: (List.range (eSl.getD k 0)).map fun j => .eq (.elem (eSv k) (.int (Int32.ofNat j))) (.int ((eSb.getD k []).getD j 0))
def eFlat : List Cond := flatC (Jvm.Cond.and given_1 narrow_1)
theorem eSws_0 : (eFlat.drop 269).take 8 = eSws 0 := by decide +kernel
theorem eSws_1 : (eFlat.drop 281).take 9 = eSws 1 := by decide +kernel
theorem eSws_2 : (eFlat.drop 295).take 8 = eSws 2 := by decide +kernel
theorem eSws_3 : (eFlat.drop 309).take 10 = eSws 3 := by decide +kernel
theorem eSws_4 : (eFlat.drop 326).take 9 = eSws 4 := by decide +kernel
theorem eSws_5 : (eFlat.drop 343).take 8 = eSws 5 := by decide +kernel
theorem eSws_6 : (eFlat.drop 360).take 9 = eSws 6 := by decide +kernel
theorem eSws_7 : (eFlat.drop 55).take 53 = eSws 7 := by decide +kernel
theorem eSws_8 : (eFlat.drop 108).take 64 = eSws 8 := by decide +kernel
theorem eSws_9 : (eFlat.drop 173).take 61 = eSws 9 := by decide +kernel
theorem eSws_10 : (eFlat.drop 236).take 30 = eSws 10 := by decide +kernel
theorem eSws_11 : (eFlat.drop 379).take 196 = eSws 11 := by decide +kernel
theorem eSws_12 : (eFlat.drop 606).take 9 = eSws 12 := by decide +kernel
theorem eSws_13 : (eFlat.drop 628).take 8 = eSws 13 := by decide +kernel
theorem eSws_14 : (eFlat.drop 650).take 10 = eSws 14 := by decide +kernel
theorem eSws_15 : (eFlat.drop 675).take 9 = eSws 15 := by decide +kernel
theorem eSws_16 : (eFlat.drop 700).take 8 = eSws 16 := by decide +kernel
theorem eSws_17 : (eFlat.drop 725).take 9 = eSws 17 := by decide +kernel
theorem eSws_18 : (eFlat.drop 586).take 8 = eSws 18 := by decide +kernel
theorem eSws_ok : ∀ k, k < 19 → ∀ w ∈ eSws k, w ∈ eFlat := by
  intro k hk w hw
  match k, hk, hw with
  | 0, _, hw => rw [← eSws_0] at hw; exact List.mem_of_mem_drop (List.mem_of_mem_take hw)
  | 1, _, hw => rw [← eSws_1] at hw; exact List.mem_of_mem_drop (List.mem_of_mem_take hw)
  | 2, _, hw => rw [← eSws_2] at hw; exact List.mem_of_mem_drop (List.mem_of_mem_take hw)
  | 3, _, hw => rw [← eSws_3] at hw; exact List.mem_of_mem_drop (List.mem_of_mem_take hw)
  | 4, _, hw => rw [← eSws_4] at hw; exact List.mem_of_mem_drop (List.mem_of_mem_take hw)
  | 5, _, hw => rw [← eSws_5] at hw; exact List.mem_of_mem_drop (List.mem_of_mem_take hw)
  | 6, _, hw => rw [← eSws_6] at hw; exact List.mem_of_mem_drop (List.mem_of_mem_take hw)
  | 7, _, hw => rw [← eSws_7] at hw; exact List.mem_of_mem_drop (List.mem_of_mem_take hw)
  | 8, _, hw => rw [← eSws_8] at hw; exact List.mem_of_mem_drop (List.mem_of_mem_take hw)
  | 9, _, hw => rw [← eSws_9] at hw; exact List.mem_of_mem_drop (List.mem_of_mem_take hw)
  | 10, _, hw => rw [← eSws_10] at hw; exact List.mem_of_mem_drop (List.mem_of_mem_take hw)
  | 11, _, hw => rw [← eSws_11] at hw; exact List.mem_of_mem_drop (List.mem_of_mem_take hw)
  | 12, _, hw => rw [← eSws_12] at hw; exact List.mem_of_mem_drop (List.mem_of_mem_take hw)
  | 13, _, hw => rw [← eSws_13] at hw; exact List.mem_of_mem_drop (List.mem_of_mem_take hw)
  | 14, _, hw => rw [← eSws_14] at hw; exact List.mem_of_mem_drop (List.mem_of_mem_take hw)
  | 15, _, hw => rw [← eSws_15] at hw; exact List.mem_of_mem_drop (List.mem_of_mem_take hw)
  | 16, _, hw => rw [← eSws_16] at hw; exact List.mem_of_mem_drop (List.mem_of_mem_take hw)
  | 17, _, hw => rw [← eSws_17] at hw; exact List.mem_of_mem_drop (List.mem_of_mem_take hw)
  | 18, _, hw => rw [← eSws_18] at hw; exact List.mem_of_mem_drop (List.mem_of_mem_take hw)
  | n + 19, hk, _ => exact absurd hk (by omega)
theorem eNot_ok : (List.range 4).all (fun i => (List.range 4).all fun j => Nat.beq i j || decide (Cond.not (.castable (eExN i) (eExN j)) ∈ eFlat)) = true := by decide +kernel
theorem eFl_1 : Cond.eq (.static "java/lang/String" "COMPACT_STRINGS" "Z") (.int 1) ∈ eFlat := by decide +kernel
theorem eFl_2 : Cond.isRef (.static "jdk/internal/util/Preconditions" "SIOOBE_FORMATTER" "Ljava/util/function/BiFunction;") ∈ eFlat := by decide +kernel
theorem eFl_3 : Cond.isRef (.static Bundle.tN "UNASSIGNED_STACK" Bundle.steD) ∈ eFlat := by decide +kernel
theorem eFl_4 : Cond.isRef (.static Bundle.tN "SUPPRESSED_SENTINEL" Bundle.listD) ∈ eFlat := by decide +kernel
theorem eTb_1 : lw_tbl[397]? = some (.laysStatic "java/lang/String" "COMPACT_STRINGS" "Z") := by decide +kernel
theorem eTb_2 : lw_tbl[413]? = some (.laysStatic "jdk/internal/util/Preconditions" "SIOOBE_FORMATTER" "Ljava/util/function/BiFunction;") := by decide +kernel
theorem eTb_3 : lw_tbl[923]? = some (.laysStatic Bundle.tN "UNASSIGNED_STACK" Bundle.steD) := by decide +kernel
theorem eTb_4 : lw_tbl[925]? = some (.laysStatic Bundle.tN "SUPPRESSED_SENTINEL" Bundle.listD) := by decide +kernel
theorem eTb_5 : lw_tbl[371]? = some (.arrayOver (.object "ShopCross$Window")) := by decide +kernel
theorem eTb_6 : Cond.initialized Bundle.tN ∈ eAll := List.mem_filter.mpr ⟨by decide +kernel, rfl⟩
theorem eArr {s : State} {ty : FieldType} {args : Array Value} (h : (Cond.arrayClass ty).before args s = true) : ∃ c, s.vm.findClass ("[" ++ ty.toString) = some c ∧ ArrOfT s c ty := by
  obtain ⟨c, k, comp, h1, h2, h3⟩ := Cond.arrayClass_spec h
  exact ⟨c, h1, fun n z => ⟨fun k h => (by cases h), k, h2, comp, h3⟩⟩
theorem eStart {p : Program} {s : State} {m : MethodId} {meth : Method} {c : Code} {b L : Nat} {xs : Nat → Int32} (hL : L ≤ 3072) (C0 : lw_At p s m meth c b L xs) : ∃ E : eE, E.2.2.1 = (b, (L, xs)) ∧ va_K E.1 vwCl (eTs E) s ∧ eX E (fun q => s.heap.size ≤ q) s := by
  obtain ⟨hx, hb, hr, hml, hown, hts, hX, hbl, hlocks, hgv⟩ := C0
  have hta : ∀ w ∈ eAll, w.before #[Value.ref b] s = true := fun w hw => hts w (List.mem_filter.mp hw).1
  have hfl : ∀ w ∈ eFlat, w.before #[Value.ref b] s = true := flat_of_before _ hgv
  have hA' : ∀ a : Nat, a < s.heap.size → ¬ (fun q : Nat => s.heap.size ≤ q) a := fun a h1 h2 => Nat.not_le.mpr h1 h2
  have h8 : ∀ k : Nat, ∃ q : ClassId × (Nat → Nat), k < 8 → u_Kn s (eCN k) (eFT k) (eN k) q.1 q.2 := by
    intro k
    by_cases hk : k < 8
    · obtain ⟨cC, iS, h⟩ := u_known (n := eN k) hta (eLay_in k hk) (hta _ (eIns8_in k hk))
      exact ⟨(cC, iS), fun _ => h⟩
    · exact ⟨(0, fun _ => 0), fun h => absurd h hk⟩
  obtain ⟨D, hD⟩ := Classical.axiomOfChoice h8
  have h19 : ∀ k : Nat, ∃ q : Nat × Nat, k < 19 → vk_S 1 [eSl.getD k 0] [eSb.getD k []] (fun _ => q.1) (fun _ => q.2) (fun q => s.heap.size ≤ q) s s.heap ∧ (Term.string (eCN (eSo k).1) (eSo k).2).eval #[Value.ref b] s none [] s = some (.ref q.1) := by
    intro k
    by_cases hk : k < 19
    · have hw : ∀ w ∈ eSws k, w.before #[Value.ref b] s = true := fun w h => hfl w (eSws_ok k hk w h)
      have h1000 := (sLen_at hk).2.2
      obtain ⟨adK, adV, h1, h2⟩ := vk_Sof (N := 1) (tm := fun _ => Term.string (eCN (eSo k).1) (eSo k).2) (len := [eSl.getD k 0]) (byt := [eSb.getD k []]) (args := #[Value.ref b]) (s := s) (A := fun q => s.heap.size ≤ q)
        (fun i hi => by
          obtain rfl : i = 0 := by omega
          show eSl.getD k 0 < 2 ^ 31
          rw [(sLen_at hk).1]
          omega)
        (fun i hi => hw _ List.mem_cons_self) (fun i hi => hw _ (List.mem_cons_of_mem _ List.mem_cons_self)) (fun i hi => hw _ (List.mem_cons_of_mem _ (List.mem_cons_of_mem _ List.mem_cons_self)))
        (fun i hi => by
          obtain rfl : i = 0 := by omega
          exact hw _ (List.mem_cons_of_mem _ (List.mem_cons_of_mem _ (List.mem_cons_of_mem _ List.mem_cons_self))))
        (fun i hi j hj => by
          obtain rfl : i = 0 := by omega
          exact hw _ (List.mem_cons_of_mem _ (List.mem_cons_of_mem _ (List.mem_cons_of_mem _ (List.mem_cons_of_mem _ (List.mem_map.mpr ⟨j, List.mem_range.mpr hj, rfl⟩))))))
        (fun i j hi hj hij => by omega) hA'
      refine ⟨(adK 0, adV 0), fun _ => ⟨⟨fun i hi => ?_, fun i j hi hj _ => by omega⟩, h2 0 (by omega)⟩⟩
      obtain rfl : i = 0 := by omega
      exact h1.1 0 (by omega)
    · exact ⟨(0, 0), fun h => absurd h hk⟩
  obtain ⟨ad, had⟩ := Classical.axiomOfChoice h19
  obtain ⟨c0, f0, a0⟩ := eArr (hta _ (eAC_in .int (by decide)))
  obtain ⟨c1, f1, a1⟩ := eArr (hta _ (eAC_in .boolean (by decide)))
  obtain ⟨c2, f2, a2⟩ := eArr (hta _ (eAC_in .byte (by decide)))
  obtain ⟨c3, f3, a3⟩ := eArr (hta _ (eAC_in .long (by decide)))
  have hao := hts _ (List.mem_of_getElem? eTb_5)
  obtain ⟨comp, c4, k4, g1, g2, g3, g4, g5⟩ := Cond.arrayOver_spec hao
  refine ⟨((fun k => (D k).1, fun k => (D k).2), ((c0, (c1, (c2, (c3, c4)))), ((b, (L, xs)), (fun k => (ad k).1, fun k => (ad k).2)))), rfl, ⟨fun k q hq => ?_, fun k q hq => ?_⟩, ?_⟩
  · have hk : k < 8 := (List.getElem?_eq_some_iff.mp hq).1
    rw [eCl_at k hk] at hq
    cases hq
    exact hD k hk
  · match k, hq with
    | 0, hq => cases hq; exact ⟨a0, f0⟩
    | 1, hq => cases hq; exact ⟨a1, f1⟩
    | 2, hq => cases hq; exact ⟨a2, f2⟩
    | 3, hq => cases hq; exact ⟨a3, f3⟩
    | 4, hq => cases hq; exact ⟨fun n z => ⟨fun k h => (by cases h), k4, g3, comp, g4⟩, k4, comp, g3, g4, g1, g5⟩
    | k + 5, hq => simp [eTs] at hq
  · refine ⟨fun w hw => ?_, va_AO.of hao, vx_Zqof (hts _ (List.mem_of_getElem? eTb_3)) (hta _ eTb_6) (hfl _ eFl_3) hA', vx_Zqof (hts _ (List.mem_of_getElem? eTb_4)) (hta _ eTb_6) (hfl _ eFl_4) hA', hX, ⟨hA' b hbl, hbl, by show L < 2 ^ 31; omega⟩, ⟨fun k hk => (had k hk).1, fun q hq => ?_, ?_, ?_⟩, ⟨f0, f1, f2, f3, g5, fun i j hi hj hij => ?_⟩⟩
    · obtain ⟨h1, h2⟩ := List.mem_filter.mp hw
      exact va_Nw.of (eMov_on h2) (hts w h1)
    · have h9 := List.all_eq_true.mp eSS_ok q hq
      simp only [Bool.and_eq_true, decide_eq_true_eq, Nat.blt_eq] at h9
      obtain ⟨h1, h2, h3⟩ := h9
      have h4 := (had _ h3).2
      rw [h2] at h4
      exact vk_R.of (hts _ (List.mem_of_getElem? h1)) h4
    · exact va_Zof (hts _ (List.mem_of_getElem? eTb_1)) (hta _ sW_i0) (va_eqt (hfl _ eFl_1)) hA'
    · exact va_Zqof (hts _ (List.mem_of_getElem? eTb_2)) (hta _ sW_i3) (hfl _ eFl_2) hA'
    · have h9 := List.all_eq_true.mp (List.all_eq_true.mp eNot_ok i (List.mem_range.mpr hi)) j (List.mem_range.mpr hj)
      simp only [Bool.or_eq_true, Nat.beq_eq, decide_eq_true_eq] at h9
      rcases h9 with h9 | h9
      · exact absurd h9 hij
      · exact va_Nc.of (hfl _ h9)
/-- the claim out of a run of the pure machine -/
theorem eLaw {p : Program} {e : Env} {s : State} {m : MethodId} {below : List Frame} {meth : Method} {c : Code} (l : Launch) (hflags : l.flags = flags0) {b L : Nat} {xs : Nat → Int32} (hL : L ≤ 3072) (C0 : lw_At p s m meth c b L xs) {k : Nat} {w : eW} (q : eRun k m_L_law 0 [some (eR 0)] [] ([eA 9 L (fun j => (xs j).toInt)], (0, 0)) = some (.inl (some (eI 1)), w)) (h1 : w.2.1 ≤ 601024) (h2 : w.2.2 ≤ 7293034) :
    W p l e room_1 s m #[Value.ref b] below meth c s.heap [] 0 0 (lw_Z below #[Value.ref b] s) (entryFrame m ([Value.ref b] : List Value).toArray 9) := by
  obtain ⟨E, hE, hK, hEX⟩ := eStart hL C0
  obtain ⟨hx, hb, hr, hml, hown, hts, hX, hbl, hlocks, hgv⟩ := C0
  have hta : ∀ w ∈ eAll, w.before #[Value.ref b] s = true := fun w hw => hts w (List.mem_filter.mp hw).1
  have hst : l.stackTraces = false := by
    show (!l.flags.contains noTraceFlag) = false
    rw [hflags]
    decide +kernel
  have hF : eFr p l room_1 s m #[Value.ref b] meth c E (fun q => s.heap.size ≤ q) 344 :=
    ⟨hx, hst, hb.trans rfl, hml.trans rfl, hr.trans rfl, hown, hlocks, hta, fun h => absurd h (by decide), fun h => absurd rfl h, hK, hEX, fun _ h => h, by decide +kernel, by decide +kernel⟩
  have hok := (eWalk l hst k).1 p e room_1 s m #[Value.ref b] below meth c E (fun q => s.heap.size ≤ q) ([], (0, 0)) _ 344 hF (by omega) ⟨h1, h2⟩ 0 [some (eR 0)] [] _ q
  have hsc : eScr E = eA 9 L (fun j => (xs j).toInt) := by
    unfold eScr
    rw [hE]
  have hrun := hok.2 [] [] s.heap [] _ [] 0 0 (lR_entry (as := [eR 0]) (vs := [Value.ref b]) (n := 9) (E := E) (α := []) ⟨by show Value.ref b = .ref E.2.2.1.1; rw [hE], trivial⟩ rfl (by decide)) trivial ⟨[], by rw [hsc], rfl, rfl, fun k c h => by simp at h⟩ (fun k q h => by simp at h) ⟨fun i j p q h => by simp at h, fun k q h => by simp at h⟩ va_S.rf rfl rfl
  rw [lg_entry_eq]
  intro T hT XX
  obtain ⟨t, g1, o, g2, g3, g4⟩ := hrun T hT XX
  refine ⟨t, g1, o, g2, g3, ?_⟩
  rcases g4 with ⟨⟨o', v, β, ws1, ho, hv, hrv, -⟩, Lc, hFE, hfree⟩ | ⟨q9, -, En, ce, Lc, ⟨k9, β, ws1, -, hk, -⟩, -⟩
  · cases ho
    have hv2 : v = some (.int 1) := by
      cases v with
      | none => exact hrv.elim
      | some y => exact congrArg some hrv
    subst hv2
    exact ⟨hv, lw_closed (d0 := s.drawn) (Drawn.sameBut.refl _ _) hFE.1 hFE.2.1 (State.sameButNew.drop_fresh (L := []) (J := Lc) hFE.2.2 hfree)⟩
  · cases hk
