/-! The class: save. -/
/-- the saved ones but the one at n -/
def svX (wd : wdT) (s : Nat → Option eRow) (n : Nat) : Prop := ∀ i, i < 2 → i ≠ n → match s i with
  | none => wd (8 + i) = none
  | some r => ∃ b T, wd (8 + i) = some (b, T) ∧ wA T r ∧ okR r
theorem svX_of {wd : wdT} {s : Nat → Option eRow} {n : Nat} (c : svC wd s) : svX wd s n := fun i hi _ => c i hi
theorem svX_nw {wd : wdT} {s : Nat → Option eRow} {n : Nat} {z : (Nat → Nat) × wS} (c : svC wd s) : svX (upW wd (8 + n) z) s n := fun i hi hne => by
  have := c i hi
  cases hx : s i with
  | none => rw [hx] at this; dsimp only; rw [upW_ne (by omega)]; exact this
  | some r => rw [hx] at this; dsimp only; rw [upW_ne (by omega)]; exact this
theorem svX_put {wd : wdT} {s : Nat → Option eRow} {i : Nat} {b : Nat → Nat} {T : wS} {a : eRow} (c : svX wd s i) (ha : wA T a) (ho : okR a) : svC (upW wd (8 + i) (b, T)) (fun k => if k = i then some a else s k) := fun k hk => by
  by_cases h : k = i
  · subst h
    have e : (fun j => if j = k then some a else s j) k = some a := if_pos rfl
    rw [e]
    exact ⟨b, T, upW_at, ha, ho⟩
  · have e : (fun j => if j = i then some a else s j) k = s k := if_neg h
    rw [e]
    have := c k hk h
    cases hx : s k with
    | none => rw [hx] at this; dsimp only; rw [upW_ne (by omega)]; exact this
    | some r => rw [hx] at this; dsimp only; rw [upW_ne (by omega)]; exact this
theorem upQ8 {q : Nat → Option Nat} {n k : Nat} {z : Option Nat} : eUp q n z k = if 8 + k = 8 + n then z else q k := by
  unfold eUp
  by_cases h : k = n
  · rw [if_pos h, if_pos (by omega)]
  · rw [if_neg h, if_neg (by omega)]
theorem ninL_left {k : Nat} : ∀ {l l' : List Nat}, ninL k (l ++ l') = true → ninL k l = true
  | [], _, _ => rfl
  | x :: l, l', h => by
    have h2 := Bool.and_eq_true_iff.mp h
    exact Bool.and_eq_true_iff.mpr ⟨h2.1, ninL_left h2.2⟩
set_option maxRecDepth 100000
theorem s_tail {V : List eC} {d : Nat × Nat} {wd : wdT} {f q : Nat → Option Nat} {hN hC x v : Int} {nx n : Nat} {b : Nat → Nat} {T0 S : wS} {a : eRow} {P : Nat → Int} {X : xT} (o1 : eNth V 1 = some (xC P)) (w1 : winAt V bC S) (hA : wA S a) (ho : okR a) (c : CHx V wd f q hN hC) (x4 : hN = (nx : Int)) (x5 : nx < 8) (x2 : hC = (X.1.1 : Int)) (x3 : X.1.1 ≤ 8) (hn2 : n < 2) (hw : wd (8 + n) = some (b, T0)) (x6 : hsC wd nx X.1.1 X.1.2) (x7 : svX wd X.2.1 n) (c2 : CT V) (c4 : CN V X.2.2.1.1 X.2.2.1.2 X.2.2.2.1) (c5 : CO V X.2.2.2.2.1 X.2.2.2.2.2) (hv : v = ((a 2 : Nat) : Int)) : Rs (ev m_S_save 31 [some (eR 1), some (eI x), some (eR (b 0))] [] (V, d)) (fun r => ∃ V', r = (.inl (some (eI v)), (V', d)) ∧ CI V' a (savX X n a) ∧ V'.length = V.length ∧ ∀ k, k < 66 ∨ (69 ≤ k ∧ k < 82) → eNth V' k = eNth V k) := by
  obtain ⟨wi, wp, ww⟩ := c.2.2.2.1.1 (8 + n) b T0 (by omega) hw
  have hap : apart b bC := fun i j hi hj e => by
    have := wp i hi
    have e : b i = 26 + j := e
    omega
  obtain ⟨V1, cp1, e1, e3⟩ := cpI (d := d) ww w1 wi inj_bC hap
  have fr1 : ∀ k, k < 82 → eNth V1 k = eNth V k := fun k hk => e3.2 k (wLf_nin (fun j hj => by have := wp j hj; omega))
  have e3b : sb V V1 (wLf b ++ wLf bC) := ⟨e3.1, fun k hk => e3.2 k (ninL_left hk)⟩
  have x1 := chx_cp c (i := 8 + n) (by omega) hw e3b e1
  have o11 := (fr1 1 (by omega)).trans o1
  have w11 : winAt V1 bC S := wat_fr w1 (fun j hj => fr1 _ (by show 26 + j < 82; omega))
  have m2 : S 11 0 = _ := hA.2.1.1
  have C1 : CI V1 a (savX X n a) := ⟨⟨S, w11, hA, ho⟩, CT_fr (fun k hk => fr1 k (by omega)) c2, CH_x.mpr ⟨_, f, q, hN, hC, nx, x1, ⟨x2, x3, x4, x5⟩, hs_sv x6, svX_put x7 (wA_cp ho.1 hA) ho⟩, CN_fr (fun k hk => fr1 k (by omega)) c4, CO_fr (fun k hk => fr1 k (by omega)) c5⟩
  refine rOf (fun R9 hR9 => xGetV (N := 3) (M2 := m_S_save) (pc2 := 33) (r := 1) (ls2 := [some (eR 1), some (eI x), some (eR (b 0))]) (st2 := [eR (b 0)]) (V := V) (d := d) (v := eR 26) rfl o1 rfl hR9) ?_
  refine rOf (fun R9 hR9 => xCallA0 (N := 1) (M2 := m_S_save) (pc2 := 36) (y := m_W_copyFrom) (n := 2) (ls2 := [some (eR 1), some (eI x), some (eR (b 0))]) (st2 := []) (st9 := [eR 26, eR (b 0)]) (V := V) (d := d) (r := (b 0)) (bs := [eR 26]) rfl rfl (winAt_obj ww) rfl cp1 hR9) ?_
  refine rOf (fun R9 hR9 => xGetV (N := 2) (M2 := m_S_save) (pc2 := 40) (r := 1) (ls2 := [some (eR 1), some (eI x), some (eR (b 0))]) (st2 := []) (V := V1) (d := d) (v := eR 26) rfl o11 rfl hR9) ?_
  refine rOf (fun R9 hR9 => xGetV (N := 1) (M2 := m_S_save) (pc2 := 43) (r := 26) (ls2 := [some (eR 1), some (eI x), some (eR (b 0))]) (st2 := []) (V := V1) (d := d) (v := eR 37) rfl (winAt_obj w11) rfl hR9) ?_
  refine rOf (fun R9 hR9 => xGetV (N := 1) (M2 := m_S_save) (pc2 := 46) (r := 37) (ls2 := [some (eR 1), some (eI x), some (eR (b 0))]) (st2 := []) (V := V1) (d := d) (v := eI (S 11 0)) rfl w11.2.2.2.2.2.2.2.2.2.2.2.1 rfl hR9) ?_
  refine rOf (fun R9 hR9 => xSeg (N := 1) (r := some (.inl (some (eI (S 11 0))), (V1, d))) rfl hR9) ?_
  exact rEnd ⟨V1, by rw [hv, ← m2], C1, e3.1, fun k hk => fr1 k (by omega)⟩
theorem sc_save {a : eRow} {X : xT} {x : Int} {v : Int} {n : Nat} (hx : x = (n : Int)) (hn : n < 2) (hv : v = ((a 2 : Nat) : Int)) : SC m_S_save [some (eI x)] a X (a) (savX X n a) v := by
  intro V d ot C h81
  have C8 := C
  obtain ⟨⟨S, w1, w2, w3, w4⟩, c2, c3, c4, c5⟩ := C
  have cc3 := c3
  obtain ⟨wd9, f9, q9, hN9, hC9, nx9, ⟨h66, h67, h68⟩, hb9⟩ := cc3
  have cc5 := c5
  obtain ⟨P, oY, o1, o69, o7⟩ := cc5
  have hI := w3
  have hI8 := hI
  obtain ⟨hG, ⟨v1, v2⟩, hO, hT, hM⟩ := hI8
  obtain ⟨⟨g1, g2, g3, g4, g5⟩, g6⟩ := hG
  have b5 := iT_24 g5 hT
  have gt := y_st (V := V) (d := d) hx hn
  obtain ⟨wd, f, q, hN, hC, nx, x1, ⟨x2, x3, x4, x5⟩, x6, x7⟩ := CH_x.mp c3
  have y68 := x1.1.2.2
  refine rSC ?_
  cases hw : wd (8 + n) with
  | some z =>
    obtain ⟨b, T0⟩ := z
    have hq : q n = some (b 0) := by rw [x1.2.2.1 n hn, hw]; rfl
    obtain ⟨r, t1, V1, t2, t3, t4, t5⟩ := s_tail (d := d) (x := x) (v := v) o1 w1 w2 ⟨w3, w4⟩ x1 x4 x5 x2 x3 hn hw x6 (svX_of x7) c2 c4 c5 hv
    subst t2
    refine rOf (fun R9 hR9 => xCallA0 (N := 3) (M2 := m_S_save) (pc2 := 2) (y := m_S_requireStateSlot) (n := 2) (ls2 := [some (eR 1), some (eI x)]) (st2 := []) (st9 := [eI x, eR 1]) (V := V) (d := d) (r := 1) (bs := [eI x]) rfl rfl o1 rfl gt hR9) ?_
    refine rOf (fun R9 hR9 => xGetV (N := 2) (M2 := m_S_save) (pc2 := 6) (r := 1) (ls2 := [some (eR 1), some (eI x)]) (st2 := []) (V := V) (d := d) (v := eR 68) rfl o1 rfl hR9) ?_
    refine rOf (fun R9 hR9 => xQLdV (N := 2) (M2 := m_S_save) (pc2 := 10) (r := 68) (ls2 := [some (eR 1), some (eI x)]) (st2 := []) (V := V) (d := d) (i := x) (k := n) rfl y68 (wr_nat (by omega) (by omega)) (by omega) hR9) ?_
    refine rOf (fun R9 hR9 => xQ (o := q n) (o2 := some (b 0)) (G := fun zq => ev m_S_save 11 [some (eR 1), some (eI x)] [.inr (.inl zq)] (V, d)) hq hR9) ?_
    refine rOf (fun R9 hR9 => xSeg (N := 3) (r := ev m_S_save 31 [some (eR 1), some (eI x), some (eR (b 0))] [] (V, d)) rfl hR9) ?_
    exact ⟨_, t1, V1, d, rfl, t3, (t5 81 (by omega)).trans h81, ⟨Nat.le_of_eq t4.symm, fun k hk => t5 k (by omega)⟩, by omega, by omega⟩
  | none =>
    have hq : q n = none := by rw [x1.2.2.1 n hn, hw]; rfl
    refine rOf (fun R9 hR9 => xCallA0 (N := 3) (M2 := m_S_save) (pc2 := 2) (y := m_S_requireStateSlot) (n := 2) (ls2 := [some (eR 1), some (eI x)]) (st2 := []) (st9 := [eI x, eR 1]) (V := V) (d := d) (r := 1) (bs := [eI x]) rfl rfl o1 rfl gt hR9) ?_
    refine rOf (fun R9 hR9 => xGetV (N := 2) (M2 := m_S_save) (pc2 := 6) (r := 1) (ls2 := [some (eR 1), some (eI x)]) (st2 := []) (V := V) (d := d) (v := eR 68) rfl o1 rfl hR9) ?_
    refine rOf (fun R9 hR9 => xQLdV (N := 2) (M2 := m_S_save) (pc2 := 10) (r := 68) (ls2 := [some (eR 1), some (eI x)]) (st2 := []) (V := V) (d := d) (i := x) (k := n) rfl y68 (wr_nat (by omega) (by omega)) (by omega) hR9) ?_
    refine rOf (fun R9 hR9 => xQ (o := q n) (o2 := none) (G := fun zq => ev m_S_save 11 [some (eR 1), some (eI x)] [.inr (.inl zq)] (V, d)) hq hR9) ?_
    refine rNewV (N := 4) (M2 := m_S_save) (pc2 := 19) (ls2 := [some (eR 1), some (eI x), some (eNul)]) (st2 := []) (V := V) (d := (d.1 + 1, d.2 + 12)) rfl (fun V2 b9 hV2 hb9 => ?_)
    obtain ⟨V3, b, n1, n2, n3, n4, n5, n6, n7⟩ := winNew (V := V) (d := (d.1 + 1, d.2 + 12))
    rw [← hV2, ← hb9] at n1
    have ho : eNth V2 b9 = some (eO 4 (eDefs 4)) := by rw [hV2, hb9]; exact eNth_mid (l := [])
    have hb0 := winAt_obj n3
    rw [n2, ← hb9] at hb0
    have hL := x1.2.2.2.2
    have o18 := (n5 1 (by omega)).trans o1
    have y688 := (n5 68 (by omega)).trans y68
    refine rOf (fun R9 hR9 => xCallB0 (N := 2) (M2 := m_S_save) (pc2 := 20) (y := m_W_init) (n := 1) (ls2 := [some (eR 1), some (eI x), some (eNul)]) (st2 := [eR b9]) (st9 := [eR b9, eR b9]) (V := V2) (d := (d.1 + 1, d.2 + 12)) (r := b9) (bs := []) rfl rfl ho rfl n1 hR9) ?_
    refine rOf (fun R9 hR9 => xGetV (N := 3) (M2 := m_S_save) (pc2 := 25) (r := 1) (ls2 := [some (eR 1), some (eI x), some (eR b9)]) (st2 := []) (V := V3) (d := (d.1 + 1 + 19, d.2 + 12 + 1548)) (v := eR 68) rfl o18 rfl hR9) ?_
    refine rQStV (N := 3) (M2 := m_S_save) (pc2 := 30) (r := 68) (v := b9) (ls2 := [some (eR 1), some (eI x), some (eR b9)]) (st2 := []) (V := V3) (d := (d.1 + 1 + 19, d.2 + 12 + 1548)) (i := x) (k := n) rfl y688 hb0 (wr_nat (by omega) (by omega)) (by omega) (fun V101 sV101 eV101 => ?_)
    have hk : ∀ k, k ≠ 68 → eNth V101 k = eNth V3 k := fun k h => sV101.2 k (ninL_iff (fun x hx => by have := List.mem_singleton.mp hx; omega))
    have hb : b9 = b 0 := hb9.trans n2.symm
    rw [hb] at eV101
    have xx := chx_nw (r := 68) (f' := f) (q' := eUp q n (some (b 0))) x1 (i := 8 + n) (by omega) hw n3 n4 n5 n6 n7 (Or.inr rfl) sV101 ⟨(hk 67 (by omega)).trans ((n5 67 (by omega)).trans x1.1.2.1), eV101⟩ (fun k hk => by rw [if_neg (by omega)]) (fun k hk => upQ8)
    have fr9 : ∀ k, k < 67 ∨ (69 ≤ k ∧ k < 82) → eNth V101 k = eNth V k := fun k h => (hk k (by omega)).trans (n5 k (by omega))
    obtain ⟨r, t1, V1, t2, t3, t4, t5⟩ := s_tail (d := (d.1 + 1 + 19, d.2 + 12 + 1548)) (x := x) (v := v) ((fr9 1 (by omega)).trans o1) (wat_fr w1 (fun j hj => fr9 _ (by show 26 + j < 67 ∨ _; omega))) w2 ⟨w3, w4⟩ xx x4 x5 x2 x3 hn upW_at (hs_sv x6) (svX_nw x7) (CT_fr (fun k hk => fr9 k (by omega)) c2) (CN_fr (fun k hk => fr9 k (by omega)) c4) (CO_fr (fun k hk => fr9 k (by omega)) c5) hv
    subst t2
    rw [hb]
    exact ⟨_, t1, V1, _, rfl, t3, (t5 81 (by omega)).trans ((fr9 81 (by omega)).trans h81), ⟨by rw [t4, sV101.1]; omega, fun k hk => (t5 k (by omega)).trans (fr9 k (by omega))⟩, by dsimp only; omega, by dsimp only; omega⟩
theorem sc_saveX {a : eRow} {X : xT} {x : Int} (bx : -2147483648 ≤ x ∧ x < 2147483648) (hn : ¬ (0 ≤ x ∧ x < 2)) : SX m_S_save [some (eI x)] a X (X) 2 := by
  intro V d ot C h81
  have C8 := C
  obtain ⟨⟨S, w1, w2, w3, w4⟩, c2, c3, c4, c5⟩ := C
  have cc3 := c3
  obtain ⟨wd9, f9, q9, hN9, hC9, nx9, ⟨h66, h67, h68⟩, hb9⟩ := cc3
  have cc5 := c5
  obtain ⟨P, oY, o1, o69, o7⟩ := cc5
  have hI := w3
  have hI8 := hI
  obtain ⟨hG, ⟨v1, v2⟩, hO, hT, hM⟩ := hI8
  obtain ⟨⟨g1, g2, g3, g4, g5⟩, g6⟩ := hG
  have b5 := iT_24 g5 hT
  have gt := y_stX (V := V) (d := d) bx hn
  refine rSX ?_
  refine rOf (fun R9 hR9 => xCallAE (N := 3) (M2 := m_S_save) (pc2 := 2) (y := m_S_requireStateSlot) (n := 2) (ls2 := [some (eR 1), some (eI x)]) (st2 := []) (st9 := [eI x, eR 1]) (V := V) (d := d) (r := 1) (bs := [eI x]) (E := 2) rfl rfl o1 rfl gt rfl hR9) ?_
  exact rEnd ⟨V, (d.1 + 1, d.2 + 6), rfl, C8, h81, ⟨Nat.le_refl _, fun _ _ => rfl⟩, by dsimp only; omega, by dsimp only; omega⟩
theorem kl_save {a a' : eRow} {X X' : xT} {x v : Int} (h : SC m_S_save [some (eI x)] a X a' X' v) : KL m_L_save [some (eI x)] a X a' X' 0 v := by
  intro V d ot C h81
  obtain ⟨P1, h1⟩ := CI_1 C
  refine rKL ?_
  obtain ⟨V2, d2, q2, C2, o2, fr2, dd1, dd2⟩ := h V d ot C h81
  obtain ⟨P2, h12⟩ := CI_1 C2
  refine rOf (fun R9 hR9 => xCallA1 (N := 5) (M2 := m_L_save) (pc2 := 4) (y := m_S_save) (n := 2) (ls2 := [some (eR 1), some (eI x), some (eR 81)]) (st2 := [eI 0, eR 81]) (st9 := [eI x, eR 1, eI 0, eR 81]) (V := V) (d := d) (r := 1) (bs := [eI x]) rfl rfl h1 rfl q2 hR9) ?_
  refine rStV (N := 2) (M2 := m_L_save) (pc2 := 8) (r := 81) (ls2 := [some (eR 1), some (eI x), some (eR 81)]) (st2 := []) (V := V2) (d := d2) (i := 0) (v := wr v) (k := 0) (ok := eOkJ) rfl o2 rfl (show wr 0 = ((0 : Nat) : Int) by decide) (by omega) (fun V101 sV101 eV101 => ?_)
  refine rOf (fun R9 hR9 => xSeg (N := 3) (r := some (.inl (some (eI 0)), (V101, d2))) rfl hR9) ?_
  exact rEnd ⟨V101, _, d2, rfl, CI_81 C2 sV101, eV101, fun _ => by rw [eUp_at], frC_81 fr2 sV101, by unfold dl; omega⟩
theorem kl_saveX {a : eRow} {X X' : xT} {x v : Int} (h : SX m_S_save [some (eI x)] a X X' 2) : KL m_L_save [some (eI x)] a X a X' 1 v := by
  intro V d ot C h81
  obtain ⟨P1, h1⟩ := CI_1 C
  refine rKL ?_
  obtain ⟨V2, d2, q2, C2, o2, fr2, dd1, dd2⟩ := h V d ot C h81
  obtain ⟨P2, h12⟩ := CI_1 C2
  refine rOf (fun R9 hR9 => xCallAC (N := 5) (M2 := m_L_save) (pc2 := 4) (y := m_S_save) (n := 2) (ls2 := [some (eR 1), some (eI x), some (eR 81)]) (st2 := [eI 0, eR 81]) (st9 := [eI x, eR 1, eI 0, eR 81]) (V := V) (d := d) (r := 1) (bs := [eI x]) (E := 2) (p := 13) rfl rfl h1 rfl q2 (by rfl) hR9) ?_
  refine rOf (fun R9 hR9 => xSeg (N := 2) (r := some (.inl (some (eI 1)), (V2, d2))) rfl hR9) ?_
  exact rEnd ⟨V2, ot, d2, rfl, C2, o2, fun h => absurd h (by decide), fr2, by unfold dl; omega⟩
