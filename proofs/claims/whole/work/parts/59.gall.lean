/-! The class's grid: all slots; a new grid. -/
def nF (v : Int) (old : Nat → Int) (k : Nat) : Nat → Int := fun i => if i < k then v else old i
theorem nF_0 {v : Int} {old : Nat → Int} : nF v old 0 = old := by funext i; unfold nF; rw [if_neg (by omega)]
theorem nF_step {v : Int} {old : Nat → Int} {k : Nat} : eUp (nF v old k) k v = nF v old (k + 1) := by
  funext i
  unfold eUp nF
  by_cases hi : i = k
  · rw [if_pos hi, if_pos (by omega)]
  · rw [if_neg hi]
    by_cases h : i < k
    · rw [if_pos h, if_pos (by omega)]
    · rw [if_neg h, if_neg (by omega)]
theorem nF_lt {v : Int} {old : Nat → Int} {k i : Nat} (h : i < k) : nF v old k i = v := by unfold nF; rw [if_pos h]
theorem fcS_w {T : wS} {a : eRow} {k p : Nat} (h : wG1 T a) : wG1 (fcS T a k p) a := h
theorem fcS_k {T : wS} {a : eRow} {k p : Nat} : kS T (fcS T a k p) := by
  refine ⟨fun b hb => ?_, rfl, rfl⟩
  unfold fcS
  rw [uS_ne (by omega), uS_ne (by omega)]
theorem fcS_x {T : wS} {a : eRow} {k j : Nat} (hG : iG a) (hj : j < a 3) (hk : k < a 3) (h : j = k ∨ (j ≠ k ∧ wX T a j)) : wX (fcS T a k (sl a k)) a j := by
  intro p hp
  have h6 := (sl_at hG hj).2.2.1
  have h7 := (sl_at hG hk).2.2.1
  have e9 : (fcS T a k (sl a k)) 9 = xF (fun p => (oth a k p : Int) - 1) (T 9) k (sl a k) := rfl
  have e10 : (fcS T a k (sl a k)) 10 = xF (opl a k) (T 10) k (sl a k) := rfl
  rw [e9, e10]
  unfold xF
  rcases h with h | ⟨h, hx⟩
  · subst h
    rw [if_pos (by omega), if_pos (by omega), Nat.add_sub_cancel_left]
    exact ⟨rfl, rfl⟩
  · rw [if_neg (by omega), if_neg (by omega)]
    exact hx p hp
set_option maxRecDepth 100000
theorem c_findSlots {S : wS} {c : Nat × Nat} {a : eRow} (g0 : S 1 0 = (a 0 : Int)) (g1 : S 1 1 = (a 1 : Int)) (hW : 2 ≤ a 0 ∧ a 0 ≤ 6) (hH : 2 ≤ a 1 ∧ a 1 ≤ 6) (g2 : ∀ e, e < 36 → S 2 e = (a (16 + e) : Int) ∧ S 3 e = (a (52 + e) : Int)) (hB : ∀ e, e < 36 → a (16 + e) ≤ 1 ∧ (a (52 + e) = 0 ∨ (97 ≤ a (52 + e) ∧ a (52 + e) ≤ 122))) : ∃ S' : wS, (wG S' (mkSl a) ∧ kS S S') ∧ ev m_G_findSlots 0 [some (eR 1)] [] (wC S, c) = some (.inl none, (wC S', c)) := by
  have hG := mkSl_iG hW hH hB
  have hn := hG.1.2.2.2.2
  have hJE := mkSl_J (a := a) (by omega) (by omega)
  generalize hWe : a 0 = W at g0 hW hJE
  generalize hHe : a 1 = H at g1 hH hJE
  have hW7 : W < 7 := by omega
  have hH7 : H < 7 := by omega
  have hJ0 : iJ W H (bl a) (clr a) 0 0 0 := by rw [← hWe, ← hHe]; exact iJ_clr
  -- the crossings
  have hc : ∀ k : Nat, k ≤ mkSl a 3 → ∀ (T : wS) (v : Int), wG1 T (mkSl a) → kS S T → (∀ j, j < k → wX T (mkSl a) j) → v = (k : Int) → ∃ S' : wS, (wG S' (mkSl a) ∧ kS S S') ∧ ev m_G_findSlots 81 [some (eR 1), some (eI v)] [] (wC T, c) = some (.inl none, (wC S', c)) := by
    refine loop_up ?_ ?_
    · intro T v hT hk hx hv
      have t3 := hT.1.2.2
      refine ⟨T, ⟨⟨hT, hx⟩, hk⟩, ?_⟩
      refine xLtF (N := 4) (x := v) (y := T 1 4) (A := ev m_G_findSlots 89 [some (eR 1), some (eI v)] [] (wC T, c)) (B := ev m_G_findSlots 100 [some (eR 1), some (eI v)] [] (wC T, c)) rfl (wr_id (by omega) (by omega)) (wr_id (by omega) (by omega)) (by omega) ?_
      refine xSeg (N := 1) (r := some (.inl none, (wC T, c))) rfl ?_
      rfl
    · intro k hk ih T v hT hkS hx hv
      have t3 := hT.1.2.2
      have hfc := c_findCrossings (c := c) hT hG hv hk
      obtain ⟨S', q1, q2⟩ := ih (fcS T (mkSl a) k (sl (mkSl a) k)) (v + 1) (fcS_w hT) (kS_tr hkS fcS_k) (fun j hj => fcS_x hG (by omega) hk (by
        by_cases hjk : j = k
        · exact Or.inl hjk
        · exact Or.inr ⟨hjk, hx j (by omega)⟩)) (by omega)
      refine ⟨S', q1, ?_⟩
      refine xLtT (N := 4) (x := v) (y := T 1 4) (A := ev m_G_findSlots 89 [some (eR 1), some (eI v)] [] (wC T, c)) (B := ev m_G_findSlots 100 [some (eR 1), some (eI v)] [] (wC T, c)) rfl (wr_id (by omega) (by omega)) (wr_id (by omega) (by omega)) (by omega) ?_
      refine xCallWV (N := 3) (M2 := m_G_findSlots) (pc2 := 91) (ls2 := [some (eR 1), some (eI v)]) (st2 := []) (y := m_G_findCrossings) (as := [some (eR 1), some (eI v)]) (w2 := (wC T, c)) rfl hfc ?_
      refine xSeg (N := 2) (r := ev m_G_findSlots 81 [some (eR 1), some (eI (v + 1))] [] (wC (fcS T (mkSl a) k (sl (mkSl a) k)), c)) rfl ?_
      exact q2
  have hfacts : ∀ (b : eRow) (T : wS) (d X Y : Nat), iJ W H (bl a) b d X Y → wG1 T b → T 1 0 = (W : Int) ∧ T 1 1 = (H : Int) ∧ (∀ k, k < 36 → T 2 k = (bl a k : Int) ∧ bl a k ≤ 1) := fun b T d X Y hJ h => ⟨by rw [h.1.1, hJ.1.1], by rw [h.1.2.1, hJ.1.2.1], fun e he => ⟨by rw [(h.2.1 e he).1, ← hJ.1.2.2 e he]; rfl, (hB e he).1⟩⟩
  have hx : ∀ (Y : Nat) (v : Int) (b : eRow), Y < H → v = (Y : Int) → iJ W H (bl a) b 0 0 Y → ∀ Q : wS → Prop, (∀ (T : wS) (y : Int), wG1 T (mkX b Y W) → kS S T → ∃ S', Q S' ∧ ev m_G_findSlots 35 [some (eR 1), some (eI (v + 1))] [] (wC T, c) = some (.inl none, (wC S', c))) → ∀ X : Nat, X ≤ W → ∀ (T : wS) (y : Int), wG1 T (mkX b Y X) → kS S T → y = (X : Int) → ∃ S', Q S' ∧ ev m_G_findSlots 45 [some (eR 1), some (eI v), some (eI y)] [] (wC T, c) = some (.inl none, (wC S', c)) := by
    intro Y v b hY hv hJ Q hQ
    refine loop_up ?_ ?_
    · intro T y hT hkS hy
      have hJ1 := iJ_mkX hW7 hH7 hY hJ (Nat.le_refl W)
      obtain ⟨f0, f1, f2⟩ := hfacts _ T _ _ _ hJ1 hT
      obtain ⟨S', q1, q2⟩ := hQ T y hT hkS
      refine ⟨S', q1, ?_⟩
      refine xLtF (N := 4) (x := y) (y := T 1 0) (A := ev m_G_findSlots 53 [some (eR 1), some (eI v), some (eI y)] [] (wC T, c)) (B := ev m_G_findSlots 73 [some (eR 1), some (eI v), some (eI y)] [] (wC T, c)) rfl (wr_id (by omega) (by omega)) (wr_id (by omega) (by omega)) (by omega) ?_
      refine xSeg (N := 2) (r := ev m_G_findSlots 35 [some (eR 1), some (eI (v + 1)), some (eI y)] [] (wC T, c)) rfl ?_
      refine xTk 2 (by rfl) rfl ?_
      exact q2
    · intro X hX ih T y hT hkS hy
      have hJ1 := iJ_mkX hW7 hH7 hY hJ (X := X) (by omega)
      obtain ⟨f0, f1, f2⟩ := hfacts _ T _ _ _ hJ1 hT
      have s1 := iJ_step hW7 hH7 (show 0 ≤ 1 by omega) hX hY hJ1
      have b1 : ∀ b2 : eRow, ∀ d : Nat, b2 0 = W → b2 1 = H → (∀ e, e < 36 → bl b2 e = bl a e) → (begs (b2 0) (b2 1) (bl b2) d X Y = true → b2 3 < 24) → (begs W H (bl a) d X Y = true → b2 3 < 24) := fun b2 d h0 h1 hb h hbg => h (by rw [h0, h1, begs_cong hW7 hH7 hb]; exact hbg)
      have n1 := b1 _ 0 hJ1.1.1 hJ1.1.2.1 hJ1.1.2.2 s1.1
      have w2 := c_addSlot0 (c := c) (n := mkX b Y X 3) (X := X) (Y := Y) f0 f1 hW7 hH7 f2 hT.1.2.2 n1 hy hv (by omega) (by omega)
      have w1 := adS0_w hT hW7 hH7 hJ1.1.1 hJ1.1.2.1 hJ1.1.2.2 n1
      have k1 : kS S (adS0 T W H (bl a) (mkX b Y X 3) X Y) := kS_tr hkS adS0_k
      generalize hT1 : adS0 T W H (bl a) (mkX b Y X 3) X Y = T1 at w1 w2 k1
      generalize hb1 : mkS 0 (mkX b Y X) X Y = a1 at w1 s1
      have s2 := iJ_step hW7 hH7 (show 1 ≤ 1 by omega) hX hY s1.2
      obtain ⟨e0, e1, e2⟩ := hfacts _ T1 _ _ _ s1.2 w1
      have n2 := b1 _ 1 s1.2.1.1 s1.2.1.2.1 s1.2.1.2.2 s2.1
      have w4 := c_addSlot1 (c := c) (n := a1 3) (X := X) (Y := Y) e0 e1 hW7 hH7 e2 w1.1.2.2 n2 hy hv (by omega) (by omega)
      have w3 := adS1_w w1 hW7 hH7 s1.2.1.1 s1.2.1.2.1 s1.2.1.2.2 n2
      rw [← hb1] at w3
      obtain ⟨S', q1, q2⟩ := ih (adS1 T1 W H (bl a) (a1 3) X Y) (y + 1) (by rw [hb1] at w3; show wG1 _ (mkS 1 (mkS 0 (mkX b Y X) X Y) X Y); rw [hb1]; exact w3) (kS_tr k1 adS1_k) (by omega)
      refine ⟨S', q1, ?_⟩
      refine xLtT (N := 4) (x := y) (y := T 1 0) (A := ev m_G_findSlots 53 [some (eR 1), some (eI v), some (eI y)] [] (wC T, c)) (B := ev m_G_findSlots 73 [some (eR 1), some (eI v), some (eI y)] [] (wC T, c)) rfl (wr_id (by omega) (by omega)) (wr_id (by omega) (by omega)) (by omega) ?_
      refine xCallWV (N := 5) (M2 := m_G_findSlots) (pc2 := 57) (ls2 := [some (eR 1), some (eI v), some (eI y)]) (st2 := []) (y := m_G_addSlot) (as := [some (eR 1), some (eI y), some (eI v), some (eI 0)]) (w2 := (wC T, c)) rfl w2 ?_
      refine xCallWV (N := 5) (M2 := m_G_findSlots) (pc2 := 64) (ls2 := [some (eR 1), some (eI v), some (eI y)]) (st2 := []) (y := m_G_addSlot) (as := [some (eR 1), some (eI y), some (eI v), some (eI 1)]) (w2 := (wC T1, c)) rfl w4 ?_
      refine xSeg (N := 2) (r := ev m_G_findSlots 45 [some (eR 1), some (eI v), some (eI (y + 1))] [] (wC (adS1 T1 W H (bl a) (a1 3) X Y), c)) rfl ?_
      exact q2
  have hy : ∀ Y : Nat, Y ≤ H → ∀ (T : wS) (v : Int), wG1 T (mkY W (clr a) Y) → kS S T → v = (Y : Int) → ∃ S' : wS, (wG S' (mkSl a) ∧ kS S S') ∧ ev m_G_findSlots 35 [some (eR 1), some (eI v)] [] (wC T, c) = some (.inl none, (wC S', c)) := by
    refine loop_up ?_ ?_
    · intro T v hT hkS hv
      obtain ⟨f0, f1, f2⟩ := hfacts _ T _ _ _ (iJ_mkY hW7 hH7 hJ0 (Nat.le_refl H)) hT
      have he : mkY W (clr a) H = mkSl a := by unfold mkSl; rw [hWe, hHe]
      rw [he] at hT
      obtain ⟨S', q1, q2⟩ := hc 0 (Nat.zero_le _) T 0 hT hkS (fun j hj => absurd hj (by omega)) rfl
      refine ⟨S', q1, ?_⟩
      refine xLtF (N := 4) (x := v) (y := T 1 1) (A := ev m_G_findSlots 43 [some (eR 1), some (eI v)] [] (wC T, c)) (B := ev m_G_findSlots 79 [some (eR 1), some (eI v)] [] (wC T, c)) rfl (wr_id (by omega) (by omega)) (wr_id (by omega) (by omega)) (by omega) ?_
      refine xSeg (N := 2) (r := ev m_G_findSlots 81 [some (eR 1), some (eI 0)] [] (wC T, c)) rfl ?_
      exact q2
    · intro Y hY ih T v hT hkS hv
      have hJ1 := iJ_mkY hW7 hH7 hJ0 (Y := Y) (by omega)
      obtain ⟨f0, f1, f2⟩ := hfacts _ T _ _ _ hJ1 hT
      obtain ⟨S', q1, q2⟩ := hx Y v _ hY hv hJ1 (fun S' => wG S' (mkSl a) ∧ kS S S') (fun T2 y h2 k2 => ih T2 (v + 1) h2 k2 (by omega)) 0 (Nat.zero_le _) T 0 hT hkS rfl
      refine ⟨S', q1, ?_⟩
      refine xLtT (N := 4) (x := v) (y := T 1 1) (A := ev m_G_findSlots 43 [some (eR 1), some (eI v)] [] (wC T, c)) (B := ev m_G_findSlots 79 [some (eR 1), some (eI v)] [] (wC T, c)) rfl (wr_id (by omega) (by omega)) (wr_id (by omega) (by omega)) (by omega) ?_
      refine xSeg (N := 2) (r := ev m_G_findSlots 45 [some (eR 1), some (eI v), some (eI 0)] [] (wC T, c)) rfl ?_
      exact q2
  have hk : ∀ k : Nat, k ≤ 36 → ∀ v : Int, v = (k : Int) → ∃ S' : wS, (wG S' (mkSl a) ∧ kS S S') ∧ ev m_G_findSlots 7 [some (eR 1), some (eI v)] [] (wC (uS (uS (uI S 1 4 0) 7 (nF (-1) (S 7) k)) 8 (nF (-1) (S 8) k)), c) = some (.inl none, (wC S', c)) := by
    refine loop_up ?_ ?_
    · intro v hv
      have h3 : clr a 3 = 0 := if_pos (Or.inl rfl)
      have hT : wG1 (uS (uS (uI S 1 4 0) 7 (nF (-1) (S 7) 36)) 8 (nF (-1) (S 8) 36)) (clr a) := by
        refine ⟨⟨?_, ?_, ?_⟩, fun e he => ⟨?_, ?_, ?_, ?_⟩, fun k hk => ?_⟩
        · rw [show clr a 0 = a 0 from if_neg (by omega), hWe]; exact g0
        · rw [show clr a 1 = a 1 from if_neg (by omega), hHe]; exact g1
        · rw [h3]; rfl
        · rw [show clr a (16 + e) = a (16 + e) from if_neg (by omega)]; exact (g2 e he).1
        · rw [show clr a (52 + e) = a (52 + e) from if_neg (by omega)]; exact (g2 e he).2
        · rw [show clr a (244 + e) = 0 from if_pos (by omega)]
          show nF (-1) (S 7) 36 e = _
          rw [nF_lt he]; rfl
        · rw [show clr a (280 + e) = 0 from if_pos (by omega)]
          show nF (-1) (S 8) 36 e = _
          rw [nF_lt he]; rfl
        · rw [h3] at hk; omega
      obtain ⟨S', q1, q2⟩ := hy 0 (Nat.zero_le _) _ 0 hT ⟨fun b hb => by rw [uS_ne (by omega), uS_ne (by omega), uI_ne (by omega)], rfl, rfl⟩ rfl
      refine ⟨S', q1, ?_⟩
      refine xLtF (N := 3) (x := v) (y := 36) (A := ev m_G_findSlots 13 [some (eR 1), some (eI v)] [] (wC (uS (uS (uI S 1 4 0) 7 (nF (-1) (S 7) 36)) 8 (nF (-1) (S 8) 36)), c)) (B := ev m_G_findSlots 33 [some (eR 1), some (eI v)] [] (wC (uS (uS (uI S 1 4 0) 7 (nF (-1) (S 7) 36)) 8 (nF (-1) (S 8) 36)), c)) rfl (wr_id (by omega) (by omega)) (show wr 36 = 36 by decide) (by omega) ?_
      refine xSeg (N := 2) (r := ev m_G_findSlots 35 [some (eR 1), some (eI 0)] [] (wC (uS (uS (uI S 1 4 0) 7 (nF (-1) (S 7) 36)) 8 (nF (-1) (S 8) 36)), c)) rfl ?_
      exact q2
    · intro k hk ih v hv
      obtain ⟨S', q1, q2⟩ := ih (v + 1) (by omega)
      refine ⟨S', q1, ?_⟩
      refine xLtT (N := 3) (x := v) (y := 36) (A := ev m_G_findSlots 13 [some (eR 1), some (eI v)] [] (wC (uS (uS (uI S 1 4 0) 7 (nF (-1) (S 7) k)) 8 (nF (-1) (S 8) k)), c)) (B := ev m_G_findSlots 33 [some (eR 1), some (eI v)] [] (wC (uS (uS (uI S 1 4 0) 7 (nF (-1) (S 7) k)) 8 (nF (-1) (S 8) k)), c)) rfl (wr_id (by omega) (by omega)) (show wr 36 = 36 by decide) (by omega) ?_
      refine xLd (N := 5) (n := 36) (i := v) (F := fun zq => ev m_G_findSlots 20 [some (eR 1), some (eI v)] [] (wC (uI (uS (uS (uI S 1 4 0) 7 (nF (-1) (S 7) k)) 8 (nF (-1) (S 8) k)) 7 zq (-1)), c)) (k := k) rfl (wr_nat (by omega) (by omega)) (by omega) ?_
      refine xLd (N := 5) (n := 36) (i := v) (F := fun zq => ev m_G_findSlots 27 [some (eR 1), some (eI v)] [] (wC (uI (uI (uS (uS (uI S 1 4 0) 7 (nF (-1) (S 7) k)) 8 (nF (-1) (S 8) k)) 7 k (-1)) 8 zq (-1)), c)) (k := k) rfl (wr_nat (by omega) (by omega)) (by omega) ?_
      refine xSeg (N := 2) (r := ev m_G_findSlots 7 [some (eR 1), some (eI (v + 1))] [] (wC (uI (uI (uS (uS (uI S 1 4 0) 7 (nF (-1) (S 7) k)) 8 (nF (-1) (S 8) k)) 7 k (-1)) 8 k (-1)), c)) rfl ?_
      rw [uI_sw rfl, uI_uS, nF_step, nF_step]
      exact q2
  obtain ⟨S', q1, q2⟩ := hk 0 (Nat.zero_le _) 0 rfl
  refine ⟨S', q1, ?_⟩
  rw [nF_0, nF_0, show uS (uS (uI S 1 4 0) 7 (S 7)) 8 (S 8) = uI S 1 4 0 by rw [show uS (uI S 1 4 0) 7 (S 7) = uI S 1 4 0 from uS_self (S := uI S 1 4 0) (a := 7)]; exact uS_self (S := uI S 1 4 0) (a := 8)] at q2
  refine xSeg (N := 5) (r := ev m_G_findSlots 7 [some (eR 1), some (eI 0)] [] (wC (uI S 1 4 0), c)) rfl ?_
  exact q2
def zG (w h : Nat) : eRow := fun i => if i = 0 then w else if i = 1 then h else 0
theorem c_gstart {S : wS} {c : Nat × Nat} {x y : Int} {W H : Nat} (hx : x = (W : Int)) (hy : y = (H : Int)) (hW : 2 ≤ W ∧ W ≤ 6) (hH : 2 ≤ H ∧ H ≤ 6) : ∃ S' : wS, (wG S' (mkSl (zG W H)) ∧ ∀ b, (b = 0 ∨ 11 ≤ b) → S' b = S b) ∧ ev m_G_start 0 [some (eR 1), some (eI x), some (eI y)] [] (wC S, c) = some (.inl none, (wC S', c)) := by
  have hk : ∀ k : Nat, k ≤ 36 → ∀ v : Int, v = (k : Int) → ∃ S' : wS, (wG S' (mkSl (zG W H)) ∧ ∀ b, (b = 0 ∨ 11 ≤ b) → S' b = S b) ∧ ev m_G_start 12 [some (eR 1), some (eI x), some (eI y), some (eI v)] [] (wC (uS (uS (uI (uI S 1 0 x) 1 1 y) 2 (nF 0 (S 2) k)) 3 (nF 0 (S 3) k)), c) = some (.inl none, (wC S', c)) := by
    refine loop_up ?_ ?_
    · intro v hv
      obtain ⟨S', ⟨q1, q2⟩, q3⟩ := c_findSlots (S := uS (uS (uI (uI S 1 0 x) 1 1 y) 2 (nF 0 (S 2) 36)) 3 (nF 0 (S 3) 36)) (c := c) (a := zG W H) hx hy hW hH (fun e he => ⟨by
        show nF 0 (S 2) 36 e = _
        rw [nF_lt he, show zG W H (16 + e) = 0 by unfold zG; rw [if_neg (by omega), if_neg (by omega)]]; rfl, by
        show nF 0 (S 3) 36 e = _
        rw [nF_lt he, show zG W H (52 + e) = 0 by unfold zG; rw [if_neg (by omega), if_neg (by omega)]]; rfl⟩) (fun e he => by
        rw [show zG W H (16 + e) = 0 by unfold zG; rw [if_neg (by omega), if_neg (by omega)], show zG W H (52 + e) = 0 by unfold zG; rw [if_neg (by omega), if_neg (by omega)]]
        exact ⟨by omega, Or.inl rfl⟩)
      refine ⟨S', ⟨q1, fun b hb => ?_⟩, ?_⟩
      · rw [q2.1 b (by omega), uS_ne (by omega), uS_ne (by omega), uI_ne (by omega), uI_ne (by omega)]
      · refine xLtF (N := 3) (x := v) (y := 36) (A := ev m_G_start 18 [some (eR 1), some (eI x), some (eI y), some (eI v)] [] (wC (uS (uS (uI (uI S 1 0 x) 1 1 y) 2 (nF 0 (S 2) 36)) 3 (nF 0 (S 3) 36)), c)) (B := ev m_G_start 38 [some (eR 1), some (eI x), some (eI y), some (eI v)] [] (wC (uS (uS (uI (uI S 1 0 x) 1 1 y) 2 (nF 0 (S 2) 36)) 3 (nF 0 (S 3) 36)), c)) rfl (wr_id (by omega) (by omega)) (show wr 36 = 36 by decide) (by omega) ?_
        refine xCallWV (N := 2) (M2 := m_G_start) (pc2 := 39) (ls2 := [some (eR 1), some (eI x), some (eI y), some (eI v)]) (st2 := []) (y := m_G_findSlots) (as := [some (eR 1)]) (w2 := (wC (uS (uS (uI (uI S 1 0 x) 1 1 y) 2 (nF 0 (S 2) 36)) 3 (nF 0 (S 3) 36)), c)) rfl q3 ?_
        refine xSeg (N := 1) (r := some (.inl none, (wC S', c))) rfl ?_
        rfl
    · intro k hk ih v hv
      obtain ⟨S', q1, q2⟩ := ih (v + 1) (by omega)
      refine ⟨S', q1, ?_⟩
      refine xLtT (N := 3) (x := v) (y := 36) (A := ev m_G_start 18 [some (eR 1), some (eI x), some (eI y), some (eI v)] [] (wC (uS (uS (uI (uI S 1 0 x) 1 1 y) 2 (nF 0 (S 2) k)) 3 (nF 0 (S 3) k)), c)) (B := ev m_G_start 38 [some (eR 1), some (eI x), some (eI y), some (eI v)] [] (wC (uS (uS (uI (uI S 1 0 x) 1 1 y) 2 (nF 0 (S 2) k)) 3 (nF 0 (S 3) k)), c)) rfl (wr_id (by omega) (by omega)) (show wr 36 = 36 by decide) (by omega) ?_
      refine xLd (N := 5) (n := 36) (i := v) (F := fun zq => ev m_G_start 25 [some (eR 1), some (eI x), some (eI y), some (eI v)] [] (wC (uI (uS (uS (uI (uI S 1 0 x) 1 1 y) 2 (nF 0 (S 2) k)) 3 (nF 0 (S 3) k)) 2 zq 0), c)) (k := k) rfl (wr_nat (by omega) (by omega)) (by omega) ?_
      refine xLd (N := 5) (n := 36) (i := v) (F := fun zq => ev m_G_start 32 [some (eR 1), some (eI x), some (eI y), some (eI v)] [] (wC (uI (uI (uS (uS (uI (uI S 1 0 x) 1 1 y) 2 (nF 0 (S 2) k)) 3 (nF 0 (S 3) k)) 2 k 0) 3 zq 0), c)) (k := k) rfl (wr_nat (by omega) (by omega)) (by omega) ?_
      refine xSeg (N := 2) (r := ev m_G_start 12 [some (eR 1), some (eI x), some (eI y), some (eI (v + 1))] [] (wC (uI (uI (uS (uS (uI (uI S 1 0 x) 1 1 y) 2 (nF 0 (S 2) k)) 3 (nF 0 (S 3) k)) 2 k 0) 3 k 0), c)) rfl ?_
      rw [uI_sw rfl, uI_uS, nF_step, nF_step]
      exact q2
  obtain ⟨S', q1, q2⟩ := hk 0 (Nat.zero_le _) 0 rfl
  refine ⟨S', q1, ?_⟩
  rw [nF_0, nF_0, show uS (uS (uI (uI S 1 0 x) 1 1 y) 2 (S 2)) 3 (S 3) = uI (uI S 1 0 x) 1 1 y by rw [show uS (uI (uI S 1 0 x) 1 1 y) 2 (S 2) = uI (uI S 1 0 x) 1 1 y from uS_self (S := uI (uI S 1 0 x) 1 1 y) (a := 2)]; exact uS_self (S := uI (uI S 1 0 x) 1 1 y) (a := 3)] at q2
  refine xSeg (N := 8) (r := ev m_G_start 12 [some (eR 1), some (eI x), some (eI y), some (eI 0)] [] (wC (uI (uI S 1 0 x) 1 1 y), c)) rfl ?_
  exact q2
