/-! The history: what is remembered. -/
theorem chx_66 {V V' : List eC} {wd : wdT} {f q : Nat → Option Nat} {hN hC hN' hC' : Int} (c : CHx V wd f q hN hC) (hs : sb V V' [66]) (he : eNth V' 66 = some (eO 1 [eR 67, eI hN', eI hC'])) : CHx V' wd f q hN' hC' := by
  obtain ⟨⟨c1, c2, c3⟩, c4, c5, ⟨c6, c7⟩, c8⟩ := c
  have hk : ∀ k, k ≠ 66 → eNth V' k = eNth V k := fun k h => hs.2 k (ninL_iff (fun x hx => by have := List.mem_singleton.mp hx; omega))
  exact ⟨⟨he, (hk 67 (by omega)).trans c2, (hk 68 (by omega)).trans c3⟩, c4, c5, ⟨fun k b S h1 h2 => by
    obtain ⟨x1, x2, x3⟩ := c6 k b S h1 h2
    exact ⟨x1, x2, wat_fr x3 (fun j hj => hk _ (by have := x2 j hj; omega))⟩, c7⟩, by rw [hs.1]; exact c8⟩
theorem hs_new {wd : wdT} {nx nx2 hn : Nat} {h : Nat → eRow} {z : (Nat → Nat) × wS} (c : hsC wd nx hn h) (hw : wd nx2 = none) : hsC (upW wd nx2 z) nx hn h := fun j hj => by
  obtain ⟨b, T, e1, e2⟩ := c j hj
  refine ⟨b, T, ?_, e2⟩
  rw [upW_ne (fun e => ?_)]
  · exact e1
  · rw [e, hw] at e1; cases e1
theorem min8 {z : Int} {n : Nat} (h : z = (n : Int)) (hn : n ≤ 8) : (if wr (z + 1) < wr 8 then z + 1 else 8) = ((min (n + 1) 8 : Nat) : Int) := by
  rw [wr_id (by omega) (by omega), show wr 8 = 8 by decide]
  split <;> omega
set_option maxRecDepth 100000
def hrQ (V : List eC) (d : Nat × Nat) (wd : wdT) (hn : Nat) (h : Nat → eRow) (s : Nat → Option eRow) (a : eRow) (S : wS) (r : (Option eV ⊕ Nat) × eW) : Prop := ∃ V' : List eC, r = (.inl none, (V', d)) ∧ CH V' (min (hn + 1) 8) (fun j => if j = 0 then a else h (j - 1)) s ∧ winAt V' bC S ∧ V'.length = V.length ∧ (∀ k, k < 26 ∨ (46 ≤ k ∧ k < 66) ∨ (69 ≤ k ∧ k < 82) → eNth V' k = eNth V k) ∧ ∀ i b T, 8 ≤ i → i < 10 → wd i = some (b, T) → winAt V' b T
theorem h_tail {V : List eC} {d : Nat × Nat} {wd : wdT} {f q : Nat → Option Nat} {hN hC : Int} {nx hn : Nat} {h : Nat → eRow} {s : Nat → Option eRow} {b : Nat → Nat} {T0 S : wS} {a : eRow} (c : CHx V wd f q hN hC) (hhN : hN = (nx : Int)) (hnx : nx < 8) (hhC : hC = (hn : Int)) (h8n : hn ≤ 8) (hw : wd nx = some (b, T0)) (hcur : winAt V bC S) (ha : wA S a) (ho : okR a) (hh : hsC wd nx hn h) (hs : svC wd s) : Rs (ev m_H_remember 32 [some (eR 66), some (eR 26), some (eR (b 0))] [] (V, d)) (hrQ V d wd hn h s a S) := by
  obtain ⟨wi, wp, wb⟩ := c.2.2.2.1.1 nx b T0 (by omega) hw
  have c1 := c.1.1
  have hap : apart b bC := fun i j hi hj e => by
    have := wp i hi
    have e : b i = 26 + j := e
    omega
  obtain ⟨V1, cp1, e1, e2, e3⟩ := winCp (d := d) wb hcur wi inj_bC hap
  have x1 := chx_cp c (i := nx) (by omega) hw e3 e1
  have d1 := x1.1.1
  have k1 : ∀ k, k < 26 ∨ (46 ≤ k ∧ k < 66) ∨ (69 ≤ k ∧ k < 82) → eNth V1 k = eNth V k := fun k hk => e3.2 k (ninL_app (wLf_nin (fun j hj => by have := wp j hj; omega)) (wLf_nin (fun j hj => by show k ≠ 26 + j; omega)))
  unfold hrQ
  refine rOf (fun R9 hR9 => xCallA0 (N := 3) (M2 := m_H_remember) (pc2 := 34) (y := m_W_copyFrom) (n := 2) (ls2 := [some (eR 66), some (eR 26), some (eR (b 0))]) (st2 := []) (st9 := [eR 26, eR (b 0)]) (V := V) (d := d) (r := (b 0)) (bs := [eR 26]) rfl rfl (winAt_obj wb) rfl cp1 hR9) ?_
  refine rOf (fun R9 hR9 => xGetV (N := 3) (M2 := m_H_remember) (pc2 := 39) (r := 66) (ls2 := [some (eR 66), some (eR 26), some (eR (b 0))]) (st2 := [eR 66]) (V := V1) (d := d) (v := eI hN) rfl d1 rfl hR9) ?_
  refine rOf (fun R9 hR9 => xNz (N := 4) (y := 8) (A := ev m_H_remember 47 [some (eR 66), some (eR 26), some (eR (b 0))] [eI (bRem (hN + 1) 8), eR 66] (V1, d)) rfl (by decide) hR9) ?_
  refine rPutV (N := 1) (M2 := m_H_remember) (pc2 := 47) (r := 66) (ls2 := [some (eR 66), some (eR 26), some (eR (b 0))]) (st2 := []) (V := V1) (d := d) (v := eI (bRem (hN + 1) 8)) rfl d1 rfl rfl (fun V101 sV101 eV101 => ?_)
  refine rOf (fun R9 hR9 => xGetV (N := 3) (M2 := m_H_remember) (pc2 := 52) (r := 66) (ls2 := [some (eR 66), some (eR 26), some (eR (b 0))]) (st2 := [eR 66]) (V := V101) (d := d) (v := eI hC) rfl eV101 rfl hR9) ?_
  refine rPutV (N := 5) (M2 := m_H_remember) (pc2 := 62) (r := 66) (ls2 := [some (eR 66), some (eR 26), some (eR (b 0))]) (st2 := []) (V := V101) (d := d) (v := eI (if wr (hC + 1) < wr 8 then hC + 1 else 8)) rfl eV101 rfl rfl (fun V102 sV102 eV102 => ?_)
  have h8 : CHx V101 (upW wd nx (b, cpW T0 S)) f q (bRem (hN + 1) 8) hC := chx_66 x1 sV101 eV101
  have h9 : CHx V102 (upW wd nx (b, cpW T0 S)) f q (bRem (hN + 1) 8) (if wr (hC + 1) < wr 8 then hC + 1 else 8) := chx_66 h8 sV102 eV102
  have hkk : ∀ k, k ≠ 66 → eNth V102 k = eNth V1 k := fun k h => by
    have hn := ninL_iff (a := k) (l := [66]) (fun x hx => by have := List.mem_singleton.mp hx; omega)
    exact (sV102.2 k hn).trans (sV101.2 k hn)
  have kk : ∀ k, k ≠ 66 → eNth V102 k = eNth V1 k := hkk
  have x8 : CH V102 (min (hn + 1) 8) (fun j => if j = 0 then a else h (j - 1)) s := CH_x.mpr ⟨_, f, q, _, _, (nx + 1) % 8, h9, ⟨min8 hhC h8n, by omega, bRem8 (m := nx + 1) (by omega) (by omega), by omega⟩, hs_push hh hnx h8n rfl (wA_cp ho.1 ha) ho, sv_ring hs hnx⟩
  have x9 : winAt V102 bC S := wat_fr e2 (fun j hj => hkk _ (by show 26 + j ≠ 66; omega))
  refine rOf (fun R9 hR9 => xSeg (N := 1) (r := some (.inl none, (V102, d))) rfl hR9) ?_
  exact rEnd ⟨V102, rfl, by exact x8, x9, by rw [sV102.1, sV101.1, e3.1], fun k hk => (kk k (by omega)).trans (k1 k (by omega)), fun i b2 T2 h1 h2 h3 => (h9.2.2.2.1.1 i b2 T2 h2 (by rw [upW_ne (by omega)]; exact h3)).2.2⟩
theorem h_rem1 {V : List eC} {d : Nat × Nat} {wd : wdT} {f q : Nat → Option Nat} {hN hC : Int} {nx hn : Nat} {h : Nat → eRow} {s : Nat → Option eRow} {S : wS} {a : eRow} (c : CHx V wd f q hN hC) (hhN : hN = (nx : Int)) (hnx : nx < 8) (hhC : hC = (hn : Int)) (h8n : hn ≤ 8) (hcur : winAt V bC S) (ha : wA S a) (ho : okR a) (hh : hsC wd nx hn h) (hs : svC wd s) : Rs (ev m_H_remember 0 [some (eR 66), some (eR 26)] [] (V, d)) (fun r => ∃ V' d', r = (.inl none, (V', d')) ∧ CH V' (min (hn + 1) 8) (fun j => if j = 0 then a else h (j - 1)) s ∧ winAt V' bC S ∧ V.length ≤ V'.length ∧ (∀ k, k < 26 ∨ (46 ≤ k ∧ k < 66) ∨ (69 ≤ k ∧ k < 82) → eNth V' k = eNth V k) ∧ d'.1 ≤ d.1 + 20 ∧ d'.2 ≤ d.2 + 1560 ∧ ∀ i b T, 8 ≤ i → i < 10 → wd i = some (b, T) → winAt V' b T) := by
  have cc := c
  obtain ⟨⟨c1, c2, c3⟩, c4, c5, ⟨c6, c7⟩, c8⟩ := cc
  cases hw : wd nx with
  | some z =>
    obtain ⟨b, T0⟩ := z
    have hf : f (nx : Nat) = some (b 0) := by rw [c4 nx hnx, hw]; rfl
    obtain ⟨r, t1, V', t2, t3, t4, t5, t6, t7⟩ := h_tail (d := d) c hhN hnx hhC h8n hw hcur ha ho hh hs
    subst t2
    have ht : Rs (ev m_H_remember 32 [some (eR 66), some (eR 26), some (eR (b 0))] [] (V, d)) (fun r => ∃ V' d', r = (.inl none, (V', d')) ∧ CH V' (min (hn + 1) 8) (fun j => if j = 0 then a else h (j - 1)) s ∧ winAt V' bC S ∧ V.length ≤ V'.length ∧ (∀ k, k < 26 ∨ (46 ≤ k ∧ k < 66) ∨ (69 ≤ k ∧ k < 82) → eNth V' k = eNth V k) ∧ d'.1 ≤ d.1 + 20 ∧ d'.2 ≤ d.2 + 1560 ∧ ∀ i b T, 8 ≤ i → i < 10 → wd i = some (b, T) → winAt V' b T) := ⟨_, t1, V', d, rfl, t3, t4, by omega, t6, by omega, by omega, t7⟩
    refine rOf (fun R9 hR9 => xGetV (N := 2) (M2 := m_H_remember) (pc2 := 1) (r := 66) (ls2 := [some (eR 66), some (eR 26)]) (st2 := []) (V := V) (d := d) (v := eR 67) rfl c1 rfl hR9) ?_
    refine rOf (fun R9 hR9 => xGetV (N := 2) (M2 := m_H_remember) (pc2 := 5) (r := 66) (ls2 := [some (eR 66), some (eR 26)]) (st2 := [eR 67]) (V := V) (d := d) (v := eI hN) rfl c1 rfl hR9) ?_
    refine rOf (fun R9 hR9 => xQLdV (N := 1) (M2 := m_H_remember) (pc2 := 8) (r := 67) (ls2 := [some (eR 66), some (eR 26)]) (st2 := []) (V := V) (d := d) (i := hN) (k := nx) rfl c2 (wr_nat (by omega) (by omega)) (by omega) hR9) ?_
    refine rOf (fun R9 hR9 => xQ (o := f nx) (o2 := some (b 0)) (G := fun zq => ev m_H_remember 9 [some (eR 66), some (eR 26)] [.inr (.inl zq)] (V, d)) hf hR9) ?_
    refine rOf (fun R9 hR9 => xSeg (N := 3) (r := ev m_H_remember 32 [some (eR 66), some (eR 26), some (eR (b 0))] [] (V, d)) rfl hR9) ?_
    exact ht
  | none =>
    have hf : f (nx : Nat) = none := by rw [c4 nx hnx, hw]; rfl
    have fin : ∀ (V3 V201 : List eC) (b : Nat → Nat) (b9 : Nat), b 0 = V.length → b9 = V.length → winAt V3 b wS0 → inj20 b → (∀ k, k < V.length → eNth V3 k = eNth V k) → (∀ i, i < 20 → V.length ≤ b i) → V.length < V3.length → sb V3 V201 [67] → eNth V201 67 = some (eQ 8 (eUp f nx (some b9))) → Rs (ev m_H_remember 32 [some (eR 66), some (eR 26), some (eR b9)] [] (V201, (d.1 + 1 + 19, d.2 + 12 + 1548))) (fun r => ∃ V' d', r = (.inl none, (V', d')) ∧ CH V' (min (hn + 1) 8) (fun j => if j = 0 then a else h (j - 1)) s ∧ winAt V' bC S ∧ V.length ≤ V'.length ∧ (∀ k, k < 26 ∨ (46 ≤ k ∧ k < 66) ∨ (69 ≤ k ∧ k < 82) → eNth V' k = eNth V k) ∧ d'.1 ≤ d.1 + 20 ∧ d'.2 ≤ d.2 + 1560 ∧ ∀ i b T, 8 ≤ i → i < 10 → wd i = some (b, T) → winAt V' b T) := fun V3 V201 b b9 n2 hb9 n3 n4 n5 n6 n7 sV eV => by
      have hk : ∀ k, k ≠ 67 → eNth V201 k = eNth V3 k := fun k h => sV.2 k (ninL_iff (fun x hx => by have := List.mem_singleton.mp hx; omega))
      have hb : b9 = b 0 := hb9.trans n2.symm
      rw [hb] at eV
      have x := chx_nw (r := 67) (f' := eUp f nx (some (b 0))) (q' := q) c (i := nx) (by omega) hw n3 n4 n5 n6 n7 (Or.inl rfl) sV ⟨eV, (hk 68 (by omega)).trans ((n5 68 (by omega)).trans c3)⟩ (fun k hk => rfl) (fun k hk => by rw [if_neg (by omega)])
      obtain ⟨r, t1, V', t2, t3, t4, t5, t6, t7⟩ := h_tail (d := (d.1 + 1 + 19, d.2 + 12 + 1548)) x hhN hnx hhC h8n upW_at (wat_fr hcur (fun j hj => (hk _ (by show 26 + j ≠ 67; omega)).trans (n5 _ (by show 26 + j < V.length; omega)))) ha ho (hs_new hh hw) (sv_ring hs hnx)
      subst t2
      rw [hb]
      exact ⟨_, t1, V', _, rfl, t3, t4, by rw [t5, sV.1]; omega, fun k hk9 => (t6 k hk9).trans ((hk k (by omega)).trans (n5 k (by omega))), by dsimp only; omega, by dsimp only; omega, fun i b2 T2 h1 h2 h3 => t7 i b2 T2 h1 h2 (by rw [upW_ne (by omega)]; exact h3)⟩
    refine rOf (fun R9 hR9 => xGetV (N := 2) (M2 := m_H_remember) (pc2 := 1) (r := 66) (ls2 := [some (eR 66), some (eR 26)]) (st2 := []) (V := V) (d := d) (v := eR 67) rfl c1 rfl hR9) ?_
    refine rOf (fun R9 hR9 => xGetV (N := 2) (M2 := m_H_remember) (pc2 := 5) (r := 66) (ls2 := [some (eR 66), some (eR 26)]) (st2 := [eR 67]) (V := V) (d := d) (v := eI hN) rfl c1 rfl hR9) ?_
    refine rOf (fun R9 hR9 => xQLdV (N := 1) (M2 := m_H_remember) (pc2 := 8) (r := 67) (ls2 := [some (eR 66), some (eR 26)]) (st2 := []) (V := V) (d := d) (i := hN) (k := nx) rfl c2 (wr_nat (by omega) (by omega)) (by omega) hR9) ?_
    refine rOf (fun R9 hR9 => xQ (o := f nx) (o2 := none) (G := fun zq => ev m_H_remember 9 [some (eR 66), some (eR 26)] [.inr (.inl zq)] (V, d)) hf hR9) ?_
    refine rNewV (N := 4) (M2 := m_H_remember) (pc2 := 17) (ls2 := [some (eR 66), some (eR 26), some (eNul)]) (st2 := []) (V := V) (d := (d.1 + 1, d.2 + 12)) rfl (fun V2 b9 hV2 hb9 => ?_)
    obtain ⟨V3, b, n1, n2, n3, n4, n5, n6, n7⟩ := winNew (V := V) (d := (d.1 + 1, d.2 + 12))
    rw [← hV2, ← hb9] at n1
    have ho : eNth V2 b9 = some (eO 4 (eDefs 4)) := by rw [hV2, hb9]; exact eNth_mid (l := [])
    have hb0 := winAt_obj n3
    rw [n2, ← hb9] at hb0
    have c18 := (n5 66 (by omega)).trans c1
    have c28 := (n5 67 (by omega)).trans c2
    have c38 := (n5 68 (by omega)).trans c3
    refine rOf (fun R9 hR9 => xCallB0 (N := 2) (M2 := m_H_remember) (pc2 := 18) (y := m_W_init) (n := 1) (ls2 := [some (eR 66), some (eR 26), some (eNul)]) (st2 := [eR b9]) (st9 := [eR b9, eR b9]) (V := V2) (d := (d.1 + 1, d.2 + 12)) (r := b9) (bs := []) rfl rfl ho rfl n1 hR9) ?_
    refine rOf (fun R9 hR9 => xGetV (N := 3) (M2 := m_H_remember) (pc2 := 23) (r := 66) (ls2 := [some (eR 66), some (eR 26), some (eR b9)]) (st2 := []) (V := V3) (d := (d.1 + 1 + 19, d.2 + 12 + 1548)) (v := eR 67) rfl c18 rfl hR9) ?_
    refine rOf (fun R9 hR9 => xGetV (N := 2) (M2 := m_H_remember) (pc2 := 27) (r := 66) (ls2 := [some (eR 66), some (eR 26), some (eR b9)]) (st2 := [eR 67]) (V := V3) (d := (d.1 + 1 + 19, d.2 + 12 + 1548)) (v := eI hN) rfl c18 rfl hR9) ?_
    refine rQStV (N := 2) (M2 := m_H_remember) (pc2 := 31) (r := 67) (v := b9) (ls2 := [some (eR 66), some (eR 26), some (eR b9)]) (st2 := []) (V := V3) (d := (d.1 + 1 + 19, d.2 + 12 + 1548)) (i := hN) (k := nx) rfl c28 hb0 (wr_nat (by omega) (by omega)) (by omega) (fun V201 sV201 eV201 => ?_)
    exact fin V3 V201 b b9 n2 hb9 n3 n4 n5 n6 n7 sV201 eV201
