/-! The law's entry: a run of the pure machine is the claim. -/
def eSo (k : Nat) : Nat × Nat := match eSS.find? (fun q => Nat.beq q.2.2.1 k) with
  | some q => (q.1, q.2.1)
  | none => (0, 0)
theorem eSS_ok : eSS.all (fun q => decide (lw_tbl[q.2.2.2]? = some (.stringRef (eCN q.1) q.2.1 (eTx q.2.2.1))) && (decide (eSo q.2.2.1 = (q.1, q.2.1)) && Nat.blt q.2.2.1 19)) = true := by decide +kernel
def eSv (k : Nat) : Term := .field (.string (eCN (eSo k).1) (eSo k).2) "java/lang/String" "value" "[B"
def eSws (k : Nat) : List Cond := .exactly (.string (eCN (eSo k).1) (eSo k).2) "java/lang/String" :: .eq (.field (.string (eCN (eSo k).1) (eSo k).2) "java/lang/String" "coder" "B") (.int 0) :: .arrayOf (eSv k) .byte :: .eq (.length (eSv k)) (.int (Int32.ofNat (eSl.getD k 0))) :: (List.range (eSl.getD k 0)).map fun j => .eq (.elem (eSv k) (.int (Int32.ofNat j))) (.int ((eSb.getD k []).getD j 0))
def eFlat : List Cond := flatC (Jvm.Cond.and given_1 narrow_1)
theorem eSws_ok : (List.range 19).all (fun k => (eSws k).all fun w => decide (w ∈ eFlat)) = true := by decide +kernel
theorem eNot_ok : (List.range 4).all (fun i => (List.range 4).all fun j => Nat.beq i j || decide (Cond.not (.castable (eExN i) (eExN j)) ∈ eFlat)) = true := by decide +kernel
theorem eFl_1 : Cond.eq (.static "java/lang/String" "COMPACT_STRINGS" "Z") (.int 1) ∈ eFlat := by decide +kernel
theorem eFl_2 : Cond.isRef (.static "jdk/internal/util/Preconditions" "SIOOBE_FORMATTER" "Ljava/util/function/BiFunction;") ∈ eFlat := by decide +kernel
theorem eFl_3 : Cond.isRef (.static Bundle.tN "UNASSIGNED_STACK" Bundle.steD) ∈ eFlat := by decide +kernel
theorem eFl_4 : Cond.isRef (.static Bundle.tN "SUPPRESSED_SENTINEL" Bundle.listD) ∈ eFlat := by decide +kernel
theorem eTb_1 : lw_tbl[397]? = some (.laysStatic "java/lang/String" "COMPACT_STRINGS" "Z") := by decide +kernel
theorem eTb_2 : lw_tbl[413]? = some (.laysStatic "jdk/internal/util/Preconditions" "SIOOBE_FORMATTER" "Ljava/util/function/BiFunction;") := by decide +kernel
theorem eTb_3 : lw_tbl[923]? = some (.laysStatic Bundle.tN "UNASSIGNED_STACK" Bundle.steD) := by decide +kernel
theorem eTb_4 : lw_tbl[925]? = some (.laysStatic Bundle.tN "SUPPRESSED_SENTINEL" Bundle.listD) := by decide +kernel
theorem eTb_5 : lw_tbl[371]? = some (.arrayOver (.object "ShopCross$Window")) := by decide +kernel
theorem eTb_6 : Cond.initialized Bundle.tN ∈ eAll := List.mem_filter.mpr ⟨by decide +kernel, rfl⟩
theorem eArr {s : State} {ty : FieldType} {args : Array Value} (h : (Cond.arrayClass ty).before args s = true) : ∃ c, s.vm.findClass ("[" ++ ty.toString) = some c ∧ ArrOfT s c ty := by
  obtain ⟨c, k, comp, h1, h2, h3⟩ := Cond.arrayClass_spec h
  exact ⟨c, h1, fun n z => ⟨fun k h => (by cases h), k, h2, comp, h3⟩⟩
theorem eStart {p : Program} {s : State} {m : MethodId} {meth : Method} {c : Code} {b L : Nat} {xs : Nat → Int32} (hL : L ≤ 3072) (C0 : lw_At p s m meth c b L xs) : ∃ E : eE, E.2.2.1 = (b, (L, xs)) ∧ va_K E.1 vwCl (eTs E) s ∧ eX E (fun q => s.heap.size ≤ q) s := by
  obtain ⟨hx, hb, hr, hml, hown, hts, hX, hbl, hlocks, hgv⟩ := C0
  have hta : ∀ w ∈ eAll, w.before #[Value.ref b] s = true := fun w hw => hts w (List.mem_filter.mp hw).1
  have hfl : ∀ w ∈ eFlat, w.before #[Value.ref b] s = true := flat_of_before _ hgv
  have hA' : ∀ a : Nat, a < s.heap.size → ¬ (fun q : Nat => s.heap.size ≤ q) a := fun a h1 h2 => Nat.not_le.mpr h1 h2
  have h8 : ∀ k : Nat, ∃ q : ClassId × (Nat → Nat), k < 8 → u_Kn s (eCN k) (eFT k) (eN k) q.1 q.2 := by
    intro k
    by_cases hk : k < 8
    · obtain ⟨cC, iS, h⟩ := u_known (n := eN k) hta (eLay_in k hk) (hta _ (eIns8_in k hk))
      exact ⟨(cC, iS), fun _ => h⟩
    · exact ⟨(0, fun _ => 0), fun h => absurd h hk⟩
  obtain ⟨D, hD⟩ := Classical.axiomOfChoice h8
  have h19 : ∀ k : Nat, ∃ q : Nat × Nat, k < 19 → vk_S 1 [eSl.getD k 0] [eSb.getD k []] (fun _ => q.1) (fun _ => q.2) (fun q => s.heap.size ≤ q) s s.heap ∧ (Term.string (eCN (eSo k).1) (eSo k).2).eval #[Value.ref b] s none [] s = some (.ref q.1) := by
    intro k
    by_cases hk : k < 19
    · have hw : ∀ w ∈ eSws k, w.before #[Value.ref b] s = true := fun w h => hfl w (of_decide_eq_true (List.all_eq_true.mp (List.all_eq_true.mp eSws_ok k (List.mem_range.mpr hk)) w h))
      have h1000 := (sLen_at hk).2.2
      obtain ⟨adK, adV, h1, h2⟩ := vk_Sof (N := 1) (tm := fun _ => Term.string (eCN (eSo k).1) (eSo k).2) (len := [eSl.getD k 0]) (byt := [eSb.getD k []]) (args := #[Value.ref b]) (s := s) (A := fun q => s.heap.size ≤ q)
        (fun i hi => by
          obtain rfl : i = 0 := by omega
          show eSl.getD k 0 < 2 ^ 31
          rw [(sLen_at hk).1]
          omega)
        (fun i hi => hw _ List.mem_cons_self) (fun i hi => hw _ (List.mem_cons_of_mem _ List.mem_cons_self)) (fun i hi => hw _ (List.mem_cons_of_mem _ (List.mem_cons_of_mem _ List.mem_cons_self)))
        (fun i hi => by
          obtain rfl : i = 0 := by omega
          exact hw _ (List.mem_cons_of_mem _ (List.mem_cons_of_mem _ (List.mem_cons_of_mem _ List.mem_cons_self))))
        (fun i hi j hj => by
          obtain rfl : i = 0 := by omega
          exact hw _ (List.mem_cons_of_mem _ (List.mem_cons_of_mem _ (List.mem_cons_of_mem _ (List.mem_cons_of_mem _ (List.mem_map.mpr ⟨j, List.mem_range.mpr hj, rfl⟩))))))
        (fun i j hi hj hij => by omega) hA'
      refine ⟨(adK 0, adV 0), fun _ => ⟨⟨fun i hi => ?_, fun i j hi hj _ => by omega⟩, h2 0 (by omega)⟩⟩
      obtain rfl : i = 0 := by omega
      exact h1.1 0 (by omega)
    · exact ⟨(0, 0), fun h => absurd h hk⟩
  obtain ⟨ad, had⟩ := Classical.axiomOfChoice h19
  obtain ⟨c0, f0, a0⟩ := eArr (hta _ (eAC_in .int (by decide)))
  obtain ⟨c1, f1, a1⟩ := eArr (hta _ (eAC_in .boolean (by decide)))
  obtain ⟨c2, f2, a2⟩ := eArr (hta _ (eAC_in .byte (by decide)))
  obtain ⟨c3, f3, a3⟩ := eArr (hta _ (eAC_in .long (by decide)))
  have hao := hts _ (List.mem_of_getElem? eTb_5)
  obtain ⟨comp, c4, k4, g1, g2, g3, g4, g5⟩ := Cond.arrayOver_spec hao
  refine ⟨((fun k => (D k).1, fun k => (D k).2), ((c0, (c1, (c2, (c3, c4)))), ((b, (L, xs)), (fun k => (ad k).1, fun k => (ad k).2)))), rfl, ⟨fun k q hq => ?_, fun k q hq => ?_⟩, ?_⟩
  · have hk : k < 8 := (List.getElem?_eq_some_iff.mp hq).1
    rw [eCl_at k hk] at hq
    cases hq
    exact hD k hk
  · match k, hq with
    | 0, hq => cases hq; exact ⟨a0, f0⟩
    | 1, hq => cases hq; exact ⟨a1, f1⟩
    | 2, hq => cases hq; exact ⟨a2, f2⟩
    | 3, hq => cases hq; exact ⟨a3, f3⟩
    | 4, hq => cases hq; exact ⟨fun n z => ⟨fun k h => (by cases h), k4, g3, comp, g4⟩, k4, comp, g3, g4, g1, g5⟩
    | k + 5, hq => simp [eTs] at hq
  · refine ⟨fun w hw => ?_, va_AO.of hao, vx_Zqof (hts _ (List.mem_of_getElem? eTb_3)) (hta _ eTb_6) (hfl _ eFl_3) hA', vx_Zqof (hts _ (List.mem_of_getElem? eTb_4)) (hta _ eTb_6) (hfl _ eFl_4) hA', hX, ⟨hA' b hbl, hbl, by show L < 2 ^ 31; omega⟩, ⟨fun k hk => (had k hk).1, fun q hq => ?_, ?_, ?_⟩, ⟨f0, f1, f2, f3, g5, fun i j hi hj hij => ?_⟩⟩
    · obtain ⟨h1, h2⟩ := List.mem_filter.mp hw
      exact va_Nw.of (eMov_on h2) (hts w h1)
    · have h9 := List.all_eq_true.mp eSS_ok q hq
      simp only [Bool.and_eq_true, decide_eq_true_eq, Nat.blt_eq] at h9
      obtain ⟨h1, h2, h3⟩ := h9
      have h4 := (had _ h3).2
      rw [h2] at h4
      exact vk_R.of (hts _ (List.mem_of_getElem? h1)) h4
    · exact va_Zof (hts _ (List.mem_of_getElem? eTb_1)) (hta _ sW_i0) (va_eqt (hfl _ eFl_1)) hA'
    · exact va_Zqof (hts _ (List.mem_of_getElem? eTb_2)) (hta _ sW_i3) (hfl _ eFl_2) hA'
    · have h9 := List.all_eq_true.mp (List.all_eq_true.mp eNot_ok i (List.mem_range.mpr hi)) j (List.mem_range.mpr hj)
      simp only [Bool.or_eq_true, Nat.beq_eq, decide_eq_true_eq] at h9
      rcases h9 with h9 | h9
      · exact absurd h9 hij
      · exact va_Nc.of (hfl _ h9)
/-- the claim out of a run of the pure machine -/
theorem eLaw {p : Program} {e : Env} {s : State} {m : MethodId} {below : List Frame} {meth : Method} {c : Code} (l : Launch) (hflags : l.flags = flags0) {b L : Nat} {xs : Nat → Int32} (hL : L ≤ 3072) (C0 : lw_At p s m meth c b L xs) {k : Nat} {w : eW} (q : eRun k m_L_law 0 [some (eR 0)] [] ([eA 9 L (fun j => (xs j).toInt)], (0, 0)) = some (.inl (some (eI 1)), w)) (h1 : w.2.1 ≤ 601024) (h2 : w.2.2 ≤ 7293034) :
    W p l e room_1 s m #[Value.ref b] below meth c s.heap [] 0 0 (lw_Z below #[Value.ref b] s) (entryFrame m ([Value.ref b] : List Value).toArray 9) := by
  obtain ⟨E, hE, hK, hEX⟩ := eStart hL C0
  obtain ⟨hx, hb, hr, hml, hown, hts, hX, hbl, hlocks, hgv⟩ := C0
  have hta : ∀ w ∈ eAll, w.before #[Value.ref b] s = true := fun w hw => hts w (List.mem_filter.mp hw).1
  have hst : l.stackTraces = false := by
    show (!l.flags.contains noTraceFlag) = false
    rw [hflags]
    decide +kernel
  have hF : eFr p l room_1 s m #[Value.ref b] meth c E (fun q => s.heap.size ≤ q) 344 :=
    ⟨hx, hst, hb.trans rfl, hml.trans rfl, hr.trans rfl, hown, hlocks, hta, fun h => absurd h (by decide), fun h => absurd rfl h, hK, hEX, fun _ h => h, by decide +kernel, by decide +kernel⟩
  have hok := (eWalk l hst k).1 p e room_1 s m #[Value.ref b] below meth c E (fun q => s.heap.size ≤ q) ([], (0, 0)) _ 344 hF (by omega) ⟨h1, h2⟩ 0 [some (eR 0)] [] _ q
  have hsc : eScr E = eA 9 L (fun j => (xs j).toInt) := by
    unfold eScr
    rw [hE]
  have hrun := hok.2 [] [] s.heap [] _ [] 0 0 (lR_entry (as := [eR 0]) (vs := [Value.ref b]) (n := 9) (E := E) (α := []) ⟨by show Value.ref b = .ref E.2.2.1.1; rw [hE], trivial⟩ rfl (by decide)) trivial ⟨[], by rw [hsc], rfl, rfl, fun k c h => by simp at h⟩ (fun k q h => by simp at h) ⟨fun i j p q h => by simp at h, fun k q h => by simp at h⟩ va_S.rf rfl rfl
  rw [lg_entry_eq]
  intro T hT XX
  obtain ⟨t, g1, o, g2, g3, g4⟩ := hrun T hT XX
  refine ⟨t, g1, o, g2, g3, ?_⟩
  rcases g4 with ⟨⟨o', v, β, ws1, ho, hv, hrv, -⟩, Lc, hFE, hfree⟩ | ⟨q9, -, En, ce, Lc, ⟨k9, β, ws1, -, hk, -⟩, -⟩
  · cases ho
    have hv2 : v = some (.int 1) := by
      cases v with
      | none => exact hrv.elim
      | some y => exact congrArg some hrv
    subst hv2
    exact ⟨hv, lw_closed (d0 := s.drawn) (Drawn.sameBut.refl _ _) hFE.1 hFE.2.1 (State.sameButNew.drop_fresh (L := []) (J := Lc) hFE.2.2 hfree)⟩
  · cases hk
