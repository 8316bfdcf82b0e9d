/-! The model makes all slots. -/
def mkX (a : eRow) (Y : Nat) : Nat → eRow
  | 0 => a
  | x + 1 => mkS 1 (mkS 0 (mkX a Y x) x Y) x Y
def mkY (W : Nat) (a : eRow) : Nat → eRow
  | 0 => a
  | y + 1 => mkX (mkY W a y) y W
def clr (a : eRow) : eRow := fun i => if i = 3 ∨ (244 ≤ i ∧ i < 316) then 0 else a i
def mkSl (a : eRow) : eRow := mkY (a 0) (clr a) (a 1)
theorem iJ_mkX {W H : Nat} {B : Nat → Nat} {a : eRow} {Y : Nat} (hW : W < 7) (hH : H < 7) (hY : Y < H) (hJ : iJ W H B a 0 0 Y) : ∀ {X : Nat}, X ≤ W → iJ W H B (mkX a Y X) 0 X Y
  | 0, _ => hJ
  | X + 1, hX => by
    have h1 := iJ_mkX hW hH hY hJ (X := X) (by omega)
    have h2 := (iJ_step hW hH (show 0 ≤ 1 by omega) (show X < W by omega) hY h1).2
    have h3 := (iJ_step hW hH (show 1 ≤ 1 by omega) (show X < W by omega) hY h2).2
    exact iJ_x h3
theorem iJ_mkY {W H : Nat} {B : Nat → Nat} {a : eRow} (hW : W < 7) (hH : H < 7) (hJ : iJ W H B a 0 0 0) : ∀ {Y : Nat}, Y ≤ H → iJ W H B (mkY W a Y) 0 0 Y
  | 0, _ => hJ
  | Y + 1, hY => iJ_y (iJ_mkX hW hH (by omega) (iJ_mkY hW hH hJ (Y := Y) (by omega)) (Nat.le_refl W))
theorem iJ_clr {a : eRow} : iJ (a 0) (a 1) (bl a) (clr a) 0 0 0 := by
  have h3 : clr a 3 = 0 := if_pos (Or.inl rfl)
  have hm : ∀ q e, q ≤ 1 → e < 36 → clr a (base q + e) = 0 := fun q e hq he => if_pos (Or.inr (by rw [base_v]; split <;> omega))
  refine ⟨⟨if_neg (by omega), if_neg (by omega), fun e he => if_neg (by omega)⟩, ?_, fun k hk => ?_, fun q e hq he h => absurd (hm q e hq he) h, fun k e hk => ?_⟩
  · rw [h3]; rfl
  · rw [h3] at hk; omega
  · rw [h3] at hk; omega
theorem mkSl_J {a : eRow} (hW : a 0 < 7) (hH : a 1 < 7) : iJ (a 0) (a 1) (bl a) (mkSl a) 0 0 (a 1) := iJ_mkY hW hH iJ_clr (Nat.le_refl _)
/-- what is no slot stays -/
theorem mkS_keep {d : Nat} {a : eRow} {X Y i : Nat} (hn : begs (a 0) (a 1) (bl a) d X Y = true → a 3 < 24) (h : i ≠ 3 ∧ (i < 148 ∨ 316 ≤ i)) : mkS d a X Y i = a i := by
  unfold mkS
  cases hb : begs (a 0) (a 1) (bl a) d X Y with
  | false => rfl
  | true =>
    have := hn hb
    rw [cond_true]
    unfold slS up
    rw [if_neg (by omega), if_neg (by omega), if_neg (by omega), if_neg (by omega), if_neg (by omega)]
    unfold runA
    rw [if_neg (by rw [base_v]; split <;> omega)]
theorem mkX_keep {W H : Nat} {B : Nat → Nat} {a : eRow} {Y i : Nat} (hW : W < 7) (hH : H < 7) (hY : Y < H) (hJ : iJ W H B a 0 0 Y) (h : i ≠ 3 ∧ (i < 148 ∨ 316 ≤ i)) : ∀ {X : Nat}, X ≤ W → mkX a Y X i = a i
  | 0, _ => rfl
  | X + 1, hX => by
    have h1 := iJ_mkX hW hH hY hJ (X := X) (by omega)
    have h2 := iJ_step hW hH (show 0 ≤ 1 by omega) (show X < W by omega) hY h1
    have h3 := iJ_step hW hH (show 1 ≤ 1 by omega) (show X < W by omega) hY h2.2
    show mkS 1 (mkS 0 (mkX a Y X) X Y) X Y i = a i
    rw [mkS_keep h3.1 h, mkS_keep h2.1 h, mkX_keep hW hH hY hJ h (X := X) (by omega)]
theorem mkY_keep {W H : Nat} {B : Nat → Nat} {a : eRow} {i : Nat} (hW : W < 7) (hH : H < 7) (hJ : iJ W H B a 0 0 0) (h : i ≠ 3 ∧ (i < 148 ∨ 316 ≤ i)) : ∀ {Y : Nat}, Y ≤ H → mkY W a Y i = a i
  | 0, _ => rfl
  | Y + 1, hY => by
    show mkX (mkY W a Y) Y W i = a i
    rw [mkX_keep hW hH (show Y < H by omega) (iJ_mkY hW hH hJ (Y := Y) (by omega)) h (Nat.le_refl W), mkY_keep hW hH hJ h (Y := Y) (by omega)]
theorem mkSl_keep {a : eRow} {i : Nat} (hW : a 0 < 7) (hH : a 1 < 7) (h : i ≠ 3 ∧ (i < 148 ∨ 316 ≤ i)) : mkSl a i = a i := by
  unfold mkSl
  rw [mkY_keep hW hH iJ_clr h (Nat.le_refl _)]
  unfold clr
  rw [if_neg (by omega)]
theorem mkSl_iG {a : eRow} (hW : 2 ≤ a 0 ∧ a 0 ≤ 6) (hH : 2 ≤ a 1 ∧ a 1 ≤ 6) (hB : ∀ e, e < 36 → a (16 + e) ≤ 1 ∧ (a (52 + e) = 0 ∨ (97 ≤ a (52 + e) ∧ a (52 + e) ≤ 122))) : iG (mkSl a) :=
  iJ_iG hW hH (mkSl_J (by omega) (by omega)) (fun e he => by rw [mkSl_keep (by omega) (by omega) (by omega), mkSl_keep (by omega) (by omega) (by omega)]; exact hB e he)
def clrK (a : eRow) (k : Nat) : eRow := fun i => if i = 3 ∨ (244 ≤ i ∧ i < 244 + k) ∨ (280 ≤ i ∧ i < 280 + k) then 0 else a i
theorem clrK_step {a : eRow} {k : Nat} (hk : k < 36) : up (up (clrK a k) (244 + k) 0) (280 + k) 0 = clrK a (k + 1) := by
  funext i
  unfold up clrK
  by_cases h1 : i = 280 + k
  · rw [if_pos h1, if_pos (by omega)]
  · rw [if_neg h1]
    by_cases h2 : i = 244 + k
    · rw [if_pos h2, if_pos (by omega)]
    · rw [if_neg h2]
      by_cases h3 : i = 3 ∨ (244 ≤ i ∧ i < 244 + k) ∨ (280 ≤ i ∧ i < 280 + k)
      · rw [if_pos h3, if_pos (by omega)]
      · rw [if_neg h3, if_neg (by omega)]
theorem clrK_36 {a : eRow} : clrK a 36 = clr a := by
  funext i
  unfold clrK clr
  by_cases h3 : i = 3 ∨ (244 ≤ i ∧ i < 316)
  · rw [if_pos h3, if_pos (by omega)]
  · rw [if_neg h3, if_neg (by omega)]
set_option maxRecDepth 100000
theorem n_makeSlots {g : Nat → Int} {a : eRow} {c : Nat × Nat} (hg : rg g a) (hW : a 0 < 7) (hH : a 1 < 7) (hB : ∀ e, e < 36 → a (16 + e) ≤ 1) : ∃ g' : Nat → Int, rg g' (mkSl a) ∧ ev m_M_makeSlots 0 [some (eR 0)] [] ([eA 0 964 g], c) = some (.inl none, ([eA 0 964 g'], c)) := by
  generalize hWe : a 0 = W at hW
  generalize hHe : a 1 = H at hH
  have hJ0 : iJ W H (bl a) (clr a) 0 0 0 := by rw [← hWe, ← hHe]; exact iJ_clr
  have hfacts : ∀ (b : eRow) (gp : Nat → Int) (d X Y : Nat), iJ W H (bl a) b d X Y → rg gp b → gp 0 = (W : Int) ∧ gp 1 = (H : Int) ∧ b 0 < 7 ∧ b 1 < 7 ∧ ∀ e, e < 36 → b (16 + e) ≤ 1 := fun b gp d X Y hJ h => ⟨by rw [h 0 (by omega), hJ.1.1], by rw [h 1 (by omega), hJ.1.2.1], by rw [hJ.1.1]; exact hW, by rw [hJ.1.2.1]; exact hH, fun e he => by
    have := hJ.1.2.2 e he
    unfold bl at this
    rw [this]
    exact hB e he⟩
  have hx : ∀ (Y : Nat) (v : Int) (b : eRow), Y < H → v = (Y : Int) → iJ W H (bl a) b 0 0 Y → ∀ Q : (Nat → Int) → Prop, (∀ (gp : Nat → Int) (y : Int), rg gp (mkX b Y W) → ∃ g', Q g' ∧ ev m_M_makeSlots 36 [some (eR 0), some (eI (v + 1))] [] ([eA 0 964 gp], c) = some (.inl none, ([eA 0 964 g'], c))) → ∀ X : Nat, X ≤ W → ∀ (gp : Nat → Int) (y : Int), rg gp (mkX b Y X) → y = (X : Int) → ∃ g', Q g' ∧ ev m_M_makeSlots 45 [some (eR 0), some (eI v), some (eI y)] [] ([eA 0 964 gp], c) = some (.inl none, ([eA 0 964 g'], c)) := by
    intro Y v b hY hv hJ Q hQ
    refine loop_up ?_ ?_
    · intro gp y hgp hy
      have hJ1 := iJ_mkX hW hH hY hJ (Nat.le_refl W)
      obtain ⟨f0, f1, f2, f3, f4⟩ := hfacts _ gp _ _ _ hJ1 hgp
      obtain ⟨g', q1, q2⟩ := hQ gp y hgp
      refine ⟨g', q1, ?_⟩
      refine xLd (N := 4) (n := 964) (i := 0) (F := fun zq => ev m_M_makeSlots 49 [some (eR 0), some (eI v), some (eI y)] [eI (gp zq), eI y] ([eA 0 964 gp], c)) (k := 0) rfl (show wr 0 = ((0 : Nat) : Int) by decide) (by omega) ?_
      refine xLtF (N := 1) (x := y) (y := gp 0) (A := ev m_M_makeSlots 52 [some (eR 0), some (eI v), some (eI y)] [] ([eA 0 964 gp], c)) (B := ev m_M_makeSlots 72 [some (eR 0), some (eI v), some (eI y)] [] ([eA 0 964 gp], c)) rfl (wr_id (by omega) (by omega)) (wr_id (by omega) (by omega)) (by omega) ?_
      refine xSeg (N := 2) (r := ev m_M_makeSlots 36 [some (eR 0), some (eI (v + 1)), some (eI y)] [] ([eA 0 964 gp], c)) rfl ?_
      refine xTk 2 (by rfl) rfl ?_
      exact q2
    · intro X hX ih gp y hgp hy
      have hJ1 := iJ_mkX hW hH hY hJ (X := X) (by omega)
      obtain ⟨f0, f1, f2, f3, f4⟩ := hfacts _ gp _ _ _ hJ1 hgp
      have s1 := iJ_step hW hH (show 0 ≤ 1 by omega) hX hY hJ1
      obtain ⟨g1, w1, w2⟩ := n_makeSlot0 (c := c) (x := y) (y := v) hgp f2 f3 f4 s1.1 hy hv (by omega) (by omega)
      obtain ⟨e0, e1, e2, e3, e4⟩ := hfacts _ g1 _ _ _ s1.2 w1
      have s2 := iJ_step hW hH (show 1 ≤ 1 by omega) hX hY s1.2
      obtain ⟨g2, w3, w4⟩ := n_makeSlot1 (c := c) (x := y) (y := v) w1 e2 e3 e4 s2.1 hy hv (by omega) (by omega)
      obtain ⟨g', q1, q2⟩ := ih g2 (y + 1) w3 (by omega)
      refine ⟨g', q1, ?_⟩
      refine xLd (N := 4) (n := 964) (i := 0) (F := fun zq => ev m_M_makeSlots 49 [some (eR 0), some (eI v), some (eI y)] [eI (gp zq), eI y] ([eA 0 964 gp], c)) (k := 0) rfl (show wr 0 = ((0 : Nat) : Int) by decide) (by omega) ?_
      refine xLtT (N := 1) (x := y) (y := gp 0) (A := ev m_M_makeSlots 52 [some (eR 0), some (eI v), some (eI y)] [] ([eA 0 964 gp], c)) (B := ev m_M_makeSlots 72 [some (eR 0), some (eI v), some (eI y)] [] ([eA 0 964 gp], c)) rfl (wr_id (by omega) (by omega)) (wr_id (by omega) (by omega)) (by omega) ?_
      refine xCallV (N := 5) (M2 := m_M_makeSlots) (pc2 := 56) (ls2 := [some (eR 0), some (eI v), some (eI y)]) (st2 := []) (y := m_M_makeSlot) (as := [some (eR 0), some (eI y), some (eI v), some (eI 0)]) (w2 := ([eA 0 964 gp], c)) rfl w2 ?_
      refine xCallV (N := 5) (M2 := m_M_makeSlots) (pc2 := 63) (ls2 := [some (eR 0), some (eI v), some (eI y)]) (st2 := []) (y := m_M_makeSlot) (as := [some (eR 0), some (eI y), some (eI v), some (eI 1)]) (w2 := ([eA 0 964 g1], c)) rfl w4 ?_
      refine xSeg (N := 2) (r := ev m_M_makeSlots 45 [some (eR 0), some (eI v), some (eI (y + 1))] [] ([eA 0 964 g2], c)) rfl ?_
      exact q2
  have hy : ∀ Y : Nat, Y ≤ H → ∀ (gp : Nat → Int) (v : Int), rg gp (mkY W (clr a) Y) → v = (Y : Int) → ∃ g', rg g' (mkY W (clr a) H) ∧ ev m_M_makeSlots 36 [some (eR 0), some (eI v)] [] ([eA 0 964 gp], c) = some (.inl none, ([eA 0 964 g'], c)) := by
    refine loop_up ?_ ?_
    · intro gp v hgp hv
      obtain ⟨f0, f1, f2, f3, f4⟩ := hfacts _ gp _ _ _ (iJ_mkY hW hH hJ0 (Nat.le_refl H)) hgp
      refine ⟨gp, hgp, ?_⟩
      refine xLd (N := 4) (n := 964) (i := 1) (F := fun zq => ev m_M_makeSlots 40 [some (eR 0), some (eI v)] [eI (gp zq), eI v] ([eA 0 964 gp], c)) (k := 1) rfl (show wr 1 = ((1 : Nat) : Int) by decide) (by omega) ?_
      refine xLtF (N := 1) (x := v) (y := gp 1) (A := ev m_M_makeSlots 43 [some (eR 0), some (eI v)] [] ([eA 0 964 gp], c)) (B := ev m_M_makeSlots 78 [some (eR 0), some (eI v)] [] ([eA 0 964 gp], c)) rfl (wr_id (by omega) (by omega)) (wr_id (by omega) (by omega)) (by omega) ?_
      refine xSeg (N := 1) (r := some (.inl none, ([eA 0 964 gp], c))) rfl ?_
      rfl
    · intro Y hY ih gp v hgp hv
      have hJ1 := iJ_mkY hW hH hJ0 (Y := Y) (by omega)
      obtain ⟨f0, f1, f2, f3, f4⟩ := hfacts _ gp _ _ _ hJ1 hgp
      obtain ⟨g', q1, q2⟩ := hx Y v _ hY hv hJ1 (fun g' => rg g' (mkY W (clr a) H)) (fun gp2 y h2 => ih gp2 (v + 1) h2 (by omega)) 0 (Nat.zero_le _) gp 0 hgp rfl
      refine ⟨g', q1, ?_⟩
      refine xLd (N := 4) (n := 964) (i := 1) (F := fun zq => ev m_M_makeSlots 40 [some (eR 0), some (eI v)] [eI (gp zq), eI v] ([eA 0 964 gp], c)) (k := 1) rfl (show wr 1 = ((1 : Nat) : Int) by decide) (by omega) ?_
      refine xLtT (N := 1) (x := v) (y := gp 1) (A := ev m_M_makeSlots 43 [some (eR 0), some (eI v)] [] ([eA 0 964 gp], c)) (B := ev m_M_makeSlots 78 [some (eR 0), some (eI v)] [] ([eA 0 964 gp], c)) rfl (wr_id (by omega) (by omega)) (wr_id (by omega) (by omega)) (by omega) ?_
      refine xSeg (N := 2) (r := ev m_M_makeSlots 45 [some (eR 0), some (eI v), some (eI 0)] [] ([eA 0 964 gp], c)) rfl ?_
      exact q2
  have hk : ∀ k : Nat, k ≤ 36 → ∀ (gp : Nat → Int) (v : Int), rg gp (clrK a k) → v = (k : Int) → ∃ g', rg g' (mkY W (clr a) H) ∧ ev m_M_makeSlots 6 [some (eR 0), some (eI v)] [] ([eA 0 964 gp], c) = some (.inl none, ([eA 0 964 g'], c)) := by
    refine loop_up ?_ ?_
    · intro gp v hgp hv
      rw [clrK_36] at hgp
      obtain ⟨g', q1, q2⟩ := hy 0 (Nat.zero_le _) gp 0 hgp rfl
      refine ⟨g', q1, ?_⟩
      refine xLtF (N := 3) (x := v) (y := 36) (A := ev m_M_makeSlots 12 [some (eR 0), some (eI v)] [] ([eA 0 964 gp], c)) (B := ev m_M_makeSlots 34 [some (eR 0), some (eI v)] [] ([eA 0 964 gp], c)) rfl (wr_id (by omega) (by omega)) (show wr 36 = 36 by decide) (by omega) ?_
      refine xSeg (N := 2) (r := ev m_M_makeSlots 36 [some (eR 0), some (eI 0)] [] ([eA 0 964 gp], c)) rfl ?_
      exact q2
    · intro k hk ih gp v hgp hv
      have hnx : rg (eUp (eUp gp (244 + k) 0) (280 + k) 0) (clrK a (k + 1)) := by
        rw [← clrK_step hk]
        exact up_rgi (up_rgi hgp rfl) rfl
      obtain ⟨g', q1, q2⟩ := ih _ (v + 1) hnx (by omega)
      refine ⟨g', q1, ?_⟩
      refine xLtT (N := 3) (x := v) (y := 36) (A := ev m_M_makeSlots 12 [some (eR 0), some (eI v)] [] ([eA 0 964 gp], c)) (B := ev m_M_makeSlots 34 [some (eR 0), some (eI v)] [] ([eA 0 964 gp], c)) rfl (wr_id (by omega) (by omega)) (show wr 36 = 36 by decide) (by omega) ?_
      refine xLd (N := 6) (n := 964) (i := 244 + v) (F := fun zq => ev m_M_makeSlots 20 [some (eR 0), some (eI v)] [] ([eA 0 964 (eUp gp zq 0)], c)) (k := 244 + k) rfl (wr_nat (by omega) (by omega)) (by omega) ?_
      refine xLd (N := 6) (n := 964) (i := 280 + v) (F := fun zq => ev m_M_makeSlots 28 [some (eR 0), some (eI v)] [] ([eA 0 964 (eUp (eUp gp (244 + k) 0) zq 0)], c)) (k := 280 + k) rfl (wr_nat (by omega) (by omega)) (by omega) ?_
      refine xSeg (N := 2) (r := ev m_M_makeSlots 6 [some (eR 0), some (eI (v + 1))] [] ([eA 0 964 (eUp (eUp gp (244 + k) 0) (280 + k) 0)], c)) rfl ?_
      exact q2
  have h0 : rg (eUp g 3 0) (clrK a 0) := by
    have e : up a 3 0 = clrK a 0 := by
      funext i
      unfold up clrK
      by_cases h : i = 3
      · rw [if_pos h, if_pos (by omega)]
      · rw [if_neg h, if_neg (by omega)]
    rw [← e]
    exact up_rgi hg rfl
  obtain ⟨g', q1, q2⟩ := hk 0 (Nat.zero_le _) _ 0 h0 rfl
  refine ⟨g', by unfold mkSl; rw [hWe, hHe]; exact q1, ?_⟩
  refine xLd (N := 4) (n := 964) (i := 3) (F := fun zq => ev m_M_makeSlots 4 [some (eR 0)] [] ([eA 0 964 (eUp g zq 0)], c)) (k := 3) rfl (show wr 3 = ((3 : Nat) : Int) by decide) (by omega) ?_
  refine xSeg (N := 2) (r := ev m_M_makeSlots 6 [some (eR 0), some (eI 0)] [] ([eA 0 964 (eUp g 3 0)], c)) rfl ?_
  exact q2
