/-! Rows that differ in their candidates alone; the model narrows. -/
def sm (a a' : eRow) : Prop := ∀ i, (i < 4 ∨ (16 ≤ i ∧ i < 316)) → a' i = a i
theorem sm_sl {a a' : eRow} (h : sm a a') {k : Nat} (hk : k < 24) : sx a' k = sx a k ∧ sy a' k = sy a k ∧ sl a' k = sl a k ∧ sd a' k = sd a k := ⟨h _ (by omega), h _ (by omega), h _ (by omega), h _ (by omega)⟩
theorem sm_cel {a a' : eRow} (h : sm a a') {k p : Nat} (hk : k < 24) : cel a' k p = cel a k p := by
  obtain ⟨h1, h2, h3, h4⟩ := sm_sl h hk
  unfold cel
  rw [h1, h2, h4]
theorem sm_oth {a a' : eRow} (h : sm a a') {k p : Nat} (hk : k < 24) (hc : cel a k p < 36) : oth a' k p = oth a k p := by
  obtain ⟨h1, h2, h3, h4⟩ := sm_sl h hk
  unfold oth
  rw [h4, sm_cel h hk, h _ (by split <;> omega)]
theorem sm_pin {a a' : eRow} (h : sm a a') {j e : Nat} (hj : j < 24) : pin a' j e = pin a j e := by
  obtain ⟨h1, h2, h3, h4⟩ := sm_sl h hj
  unfold pin
  rw [h1, h2, h4]
theorem sm_wl {a a' : eRow} (h : sm a a') {w : Nat} (hw : w < 30) : wl a' w = wl a w := h _ (by omega)
theorem sm_dgt {a a' : eRow} (h : sm a a') {w i : Nat} (hw : w < 30) : dgt a' w i = dgt a w i := by
  unfold dgt
  rw [sm_wl h hw, h _ (by omega)]
theorem sm_lt {a a' : eRow} (h : sm a a') {w i : Nat} (hw : w < 30) : lt a' w i = lt a w i := by
  unfold lt
  rw [sm_dgt h hw]
theorem sm_iV {a a' : eRow} (h : sm a a') (hV : iV a) : iV a' := by
  have e2 : a' 2 = a 2 := h 2 (by omega)
  refine ⟨by rw [e2]; exact hV.1, fun w hw => ?_⟩
  rw [e2] at hw
  have hm := hV.1
  have hv := hV.2 w hw
  rw [sm_wl h (by omega), h (88 + w) (by omega)]
  exact ⟨hv.1, hv.2.1, hv.2.2.1, fun i hi => by rw [sm_dgt h (by omega)]; exact hv.2.2.2 i hi⟩
theorem sm_iG {a a' : eRow} (h : sm a a') (hG : iG a) : iG a' := by
  have e0 : a' 0 = a 0 := h 0 (by omega)
  have e1 : a' 1 = a 1 := h 1 (by omega)
  have e3 : a' 3 = a 3 := h 3 (by omega)
  obtain ⟨g1, g2, g3, g4, g5⟩ := hG
  refine ⟨by rw [e0, e1, e3]; exact g1, fun e he => ?_, fun k hk => ?_, fun e he => ?_, fun k p hk hp => ?_⟩
  · rw [h (16 + e) (by omega), h (52 + e) (by omega), h (244 + e) (by omega), h (280 + e) (by omega), e3]
    exact g2 e he
  · rw [e3] at hk
    obtain ⟨h1, h2, h3, h4⟩ := sm_sl h (k := k) (by omega)
    rw [h1, h2, h3, h4]
    exact g3 k hk
  · have b := g2 e he
    obtain ⟨h1, h2, h3, h4⟩ := sm_sl h (k := a (244 + e) - 1) (by omega)
    obtain ⟨k1, k2, k3, k4⟩ := sm_sl h (k := a (280 + e) - 1) (by omega)
    rw [h (244 + e) (by omega), h (280 + e) (by omega), h1, h2, h3, h4, k1, k2, k3, k4]
    exact g4 e he
  · rw [e3] at hk
    obtain ⟨h1, h2, h3, h4⟩ := sm_sl h (k := k) (by omega)
    rw [h3] at hp
    have hc := cel_lt (a := a) ⟨g1, g2, g3, g4, g5⟩ hk hp
    rw [h4, sm_cel h (by omega), h _ (by split <;> omega)]
    exact g5 k p hk hp
theorem setO_sm {a : eRow} {r : Nat → Nat} : sm a (setO a r) := fun i hi => by unfold setO; rw [if_neg (by omega)]
theorem setO_op {a : eRow} {r : Nat → Nat} {k : Nat} (hk : k < a 3) : op (setO a r) k = r k := by
  unfold op setO
  rw [if_pos (by omega), Nat.add_sub_cancel_left]
theorem setO_setO {a : eRow} {r q : Nat → Nat} : setO (setO a r) q = setO a q := by
  have e3 : setO a r 3 = a 3 := setO_sm 3 (by omega)
  funext i
  show (if 316 ≤ i ∧ i < 316 + setO a r 3 then q (i - 316) else setO a r i) = _
  rw [e3]
  unfold setO
  by_cases h : 316 ≤ i ∧ i < 316 + a 3
  · rw [if_pos h, if_pos h]
  · rw [if_neg h, if_neg h, if_neg h]
theorem setO_cong {a : eRow} {r q : Nat → Nat} (h : ∀ k, k < a 3 → r k = q k) : setO a r = setO a q := by
  funext i
  unfold setO
  by_cases hi : 316 ≤ i ∧ i < 316 + a 3
  · rw [if_pos hi, if_pos hi, h _ (by omega)]
  · rw [if_neg hi, if_neg hi]
theorem lmN_cong {m0 m1 : Nat} {f g : Nat → Nat} (hm : m0 = m1) (h : ∀ w, w < 30 → m0.testBit w = true → f w = g w) : lmN m0 f = lmN m1 g := by
  subst hm
  unfold lmN
  refine orN_cong (fun i hi => ?_)
  cases hb : m0.testBit i with
  | true => rw [h i hi hb]
  | false => rfl
theorem allN_cong {p q : Nat → Bool} : ∀ {n : Nat}, (∀ k, k < n → p k = q k) → allN p n = allN q n
  | 0, _ => rfl
  | n + 1, h => by show (allN p n && p n) = (allN q n && q n); rw [allN_cong (fun k hk => h k (by omega)), h n (by omega)]
theorem anyN_cong {p q : Nat → Bool} : ∀ {n : Nat}, (∀ k, k < n → p k = q k) → anyN p n = anyN q n
  | 0, _ => rfl
  | n + 1, h => by show (anyN p n || p n) = (anyN q n || q n); rw [anyN_cong (fun k hk => h k (by omega)), h n (by omega)]
/-- the row's own words for the narrowing -/
def nrA (a : eRow) : Nat → Nat → (Nat → Nat) → Nat → Nat := fun d _ o => nr (a 3) (sl a) (oth a) (plc a) (lt a) d o
def mA (a : eRow) (o : Nat → Nat) : Prop := mB (a 3) (a 2) (sl a) (wl a) o
theorem iO_mA {a : eRow} (h : iO a) : mA a (op a) := h
theorem cr_cong {a a' : eRow} {o : Nat → Nat} (h : sm a a') (hG : iG a) (hV : iV a) (ho : ∀ k, k < a 3 → op a' k = o k) (hm : mA a o) {k : Nat} (hk : k < a 3) : cr a' k = crR (sl a) (oth a) (plc a) (lt a) o k := by
  have hn := hG.1.2.2.2.2
  have hs := sm_sl h (k := k) (by omega)
  have hm30 := hV.1
  have h6 := (sl_at hG hk).2.2.1
  refine eqb mkM_30 mkM_30 (fun w hw => ?_)
  rw [cr_tb hw]
  unfold crR crP
  rw [mkM_tb, decide_eq_true hw, Bool.true_and, ho k hk]
  cases hb : (o k).testBit w with
  | false => rfl
  | true =>
    rw [Bool.true_and, Bool.true_and]
    unfold sup
    rw [hs.2.2.1]
    refine allN_cong (fun q hq => ?_)
    have hc := cel_lt hG hk hq
    have ho1 := sm_oth h (by omega) hc
    have hw2 := (hm k hk).2 w hb
    unfold lk
    rw [ho1]
    by_cases h0 : oth a k q = 0
    · rw [decide_eq_false (by omega)]; rfl
    · obtain ⟨c1, c2, c3, c4, c5, c6⟩ := cross hG hk hq h0
      rw [sm_lt h (by omega)]
      have hpl : plc a' k q = plc a k q := by
        unfold plc
        rw [ho1, sm_cel h (by omega), sm_pin h (by omega)]
      rw [hpl, lmN_cong (m1 := o (oth a k q - 1)) (g := fun v => lt a v (plc a k q)) (ho _ c1) (fun v hv _ => sm_lt h hv)]
theorem fnd_cong {p q : Nat → Bool} : ∀ {d k : Nat}, (∀ i, k ≤ i → i < k + d → p i = q i) → fnd p d k = fnd q d k
  | 0, _, _ => rfl
  | d + 1, k, h => by show (bif p k then (k : Int) else fnd p d (k + 1)) = (bif q k then (k : Int) else fnd q d (k + 1)); rw [h k (by omega) (by omega), fnd_cong (fun i h1 h2 => h i (by omega) (by omega))]
theorem sgR_cong {n : Nat} {o o' : Nat → Nat} (h : ∀ k, k < n → o k = o' k) {k : Nat} (hk : k < n) : sgR n o k = sgR n o' k := by
  refine eqb mkM_30 mkM_30 (fun w hw => ?_)
  unfold sgR
  rw [mkM_tb, mkM_tb, h k hk]
  have e : anyN (fun j => decide (j ≠ k) && (sg1 o j && (o j).testBit w)) n = anyN (fun j => decide (j ≠ k) && (sg1 o' j && (o' j).testBit w)) n := anyN_cong (fun j hj => by
    have e1 : sg1 o j = sg1 o' j := by
      unfold sg1
      rw [h j hj]
    rw [e1, h j hj])
  rw [e]
/-- fewer words -/
theorem pc_mono {m m' : Nat} (h : ∀ w, m'.testBit w = true → m.testBit w = true) : pc 30 m' ≤ pc 30 m := by
  rw [pc_ct, pc_ct]
  exact fb_ct_sub (fun k _ => h k)
theorem pc_less {m m' : Nat} (hm : m < 1073741824) (hm' : m' < 1073741824) (h : ∀ w, m'.testBit w = true → m.testBit w = true) (hne : m' ≠ m) : pc 30 m' < pc 30 m := by
  have hex : ∃ i, i < 30 ∧ m.testBit i = true ∧ m'.testBit i = false := by
    apply Classical.byContradiction
    intro hno
    refine hne (eqb hm' hm (fun w hw => ?_))
    cases h1 : m.testBit w with
    | true =>
      cases h2 : m'.testBit w with
      | true => rfl
      | false => exact absurd ⟨w, hw, h1, h2⟩ hno
    | false =>
      cases h2 : m'.testBit w with
      | true => rw [h w h2] at h1; cases h1
      | false => rfl
  obtain ⟨i, hi, h1, h2⟩ := hex
  rw [pc_ct, pc_ct]
  have h3 := fb_ct_upd (fun k => m.testBit k) false hi
  simp only [h1, if_true] at h3
  have h4 : fb_ct (fun k => m'.testBit k) 30 ≤ fb_ct (fun k => if k = i then false else m.testBit k) 30 := fb_ct_sub (fun k _ hk => by
    by_cases hki : k = i
    · subst hki; rw [h2] at hk; cases hk
    · rw [if_neg hki]; exact h k hk)
  simp only [Bool.false_eq_true, if_false] at h3
  omega
def tot (n : Nat) (o : Nat → Nat) : Nat := fb_sm (fun k => pc 30 (o k)) n
theorem tot_less {n : Nat} {o o' : Nat → Nat} (h : ∀ k, k < n → o k < 1073741824 ∧ o' k < 1073741824 ∧ ∀ w, (o' k).testBit w = true → (o k).testBit w = true) (hne : ∃ k, k < n ∧ o' k ≠ o k) : tot n o' < tot n o := by
  obtain ⟨k, hk, hne⟩ := hne
  have h1 := pc_less (h k hk).1 (h k hk).2.1 (h k hk).2.2 hne
  have h2 : ∀ n2, k < n2 → n2 ≤ n → tot n2 o' < tot n2 o := by
    intro n2
    induction n2 with
    | zero => intro h; omega
    | succ n2 ih =>
      intro h3 h4
      show fb_sm _ n2 + pc 30 (o' n2) < fb_sm _ n2 + pc 30 (o n2)
      have h5 := pc_mono (h n2 (by omega)).2.2
      by_cases hkn : k = n2
      · subst hkn
        have h6 : fb_sm (fun k => pc 30 (o' k)) k ≤ fb_sm (fun k => pc 30 (o k)) k := fb_sm_le (fun j hj => pc_mono (h j (by omega)).2.2)
        omega
      · have h6 := ih (by omega) (by omega)
        unfold tot at h6
        omega
  exact h2 n hk (Nat.le_refl _)
theorem tot_le {n : Nat} {o : Nat → Nat} (hn : n ≤ 24) : tot n o ≤ 720 := by
  have := fb_sm_bound (f := fun k => pc 30 (o k)) (c := 30) (n := n) (fun k _ => pc_le 30 _)
  unfold tot
  omega
/-- all have just one, or one has more -/
theorem bsA_none {f : Nat → Nat} (hf : ∀ k, f k ≤ 30) : ∀ {n : Nat}, (∀ k, k < n → 1 ≤ f k) → ((bsA f n).1 = -1 ↔ fb_sm f n = n) ∧ n ≤ fb_sm f n
  | 0, _ => by simp [bsA, fb_sm]
  | n + 1, h => by
    obtain ⟨h1, h2⟩ := bsA_none hf (n := n) (fun k hk => h k (by omega))
    have h3 := h n (by omega)
    have h4 := hf n
    have h5 := bsA_i hf (k := n)
    rw [fb_sm_succ]
    refine ⟨?_, by omega⟩
    by_cases hc : 1 < f n ∧ f n < (bsA f n).2
    · rw [bsA_T hc]
      dsimp only
      omega
    · rw [bsA_F hc]
      rcases h5 with ⟨a1, a2⟩ | ⟨j, a1, a2, a3⟩
      · have := h1.mp a1; omega
      · have h6 : ¬ (bsA f n).1 = -1 := by omega
        have h7 : ¬ fb_sm f n = n := fun e => h6 (h1.mpr e)
        omega
theorem mdN_left {n : Nat} {o : Nat → Nat} (he : fnd (fun k => decide (o k = 0)) n 0 = -1) (ho : ∀ k, k < n → o k < 1073741824) : mdN n o = if 0 < n ∧ fb_sm (fun k => pc 30 (o k)) n = n then 1 else 0 := by
  have hne : ∀ d k : Nat, fnd (fun k => decide (o k = 0)) d k = -1 → ∀ i, k ≤ i → i < k + d → o i ≠ 0 := by
    intro d
    induction d with
    | zero => intro k _ i h1 h2; omega
    | succ d ih =>
      intro k h i h1 h2
      cases hb : decide (o k = 0) with
      | true =>
        rw [fnd_T (p := fun k => decide (o k = 0)) hb] at h
        omega
      | false =>
        rw [fnd_F (p := fun k => decide (o k = 0)) hb] at h
        by_cases hik : i = k
        · subst hik; exact of_decide_eq_false hb
        · exact ih (k + 1) h i (by omega) (by omega)
  have h1 := (bsA_none (f := fun k => pc 30 (o k)) (fun k => pc_le 30 _) (n := n) (fun k hk => by
    have h2 := hne n 0 he k (by omega) (by omega)
    have h3 : pc 30 (o k) ≠ 0 := fun e => h2 ((pc_zero (ho k hk)).mp e)
    omega)).1
  unfold mdN
  rw [if_neg (by omega)]
  by_cases hc : 0 < n ∧ (bsA (fun k => pc 30 (o k)) n).1 = -1
  · rw [if_pos hc, if_pos ⟨hc.1, h1.mp hc.2⟩]
  · rw [if_neg hc, if_neg (fun e => hc ⟨e.1, h1.mpr e.2⟩)]
def up (a : eRow) (i v : Nat) : eRow := fun j => if j = i then v else a j
theorem up_rg {g : Nat → Int} {a : eRow} {i v : Nat} (h : rg g a) : rg (eUp g i (v : Int)) (up a i v) := fun j hj => by
  unfold eUp up
  by_cases hji : j = i
  · rw [if_pos hji, if_pos hji]
  · rw [if_neg hji, if_neg hji]; exact h j hj
theorem rg_cong {g : Nat → Int} {a a' : eRow} (h : rg g a) (h2 : ∀ i, i < 964 → a' i = a i) : rg g a' := fun i hi => by rw [h2 i hi]; exact h i hi
/-- the row narrowed: its masks, its state -/
def nwO (a : eRow) : Nat → Nat := nr (a 3) (sl a) (oth a) (plc a) (lt a) 721 (op a)
def nwA (a : eRow) : eRow := up (setO a (nwO a)) 4 (mdN (a 3) (nwO a))
set_option maxRecDepth 100000
theorem n_narrow {g mk fr P : Nat → Int} {a : eRow} {c : Nat × Nat} (hg : rg g a) (hG : iG a) (hV : iV a) (hO : iO a) : ∃ g' mk' fr' : Nat → Int, rg g' (nwA a) ∧ ev m_M_narrow 0 [some (eR 1), some (eR 0)] [] ([eA 0 964 g, mO P, eA 0 144 mk, eA 0 24 fr], c) = some (.inl none, ([eA 0 964 g', mO P, eA 0 144 mk', eA 0 24 fr'], c)) := by
  have hn := hG.1.2.2.2.2
  have he : ∀ (o : Nat → Nat) (g mk fr : Nat → Int) (x : Int), rg g (setO a o) → mA a o → ∃ g' : Nat → Int, rg g' (up (setO a o) 4 (mdN (a 3) o)) ∧ ev m_M_narrow 45 [some (eR 1), some (eR 0), some (eI x)] [] ([eA 0 964 g, mO P, eA 0 144 mk, eA 0 24 fr], c) = some (.inl none, ([eA 0 964 g', mO P, eA 0 144 mk, eA 0 24 fr], c)) := by
    intro o g mk fr x hg2 hm2
    have e3 : g 3 = (a 3 : Int) := by rw [hg2 3 (by omega), setO_sm 3 (by omega)]
    have hop : ∀ k, k < a 3 → op (setO a o) k = o k := fun k hk => setO_op hk
    have hs3 : (setO a o) 3 = a 3 := setO_sm 3 (by omega)
    -- the state is 0 for the moment
    have hgz : rg (eUp g 4 0) (up (setO a o) 4 0) := up_rg hg2
    have hz3 : (up (setO a o) 4 0) 3 = a 3 := hs3
    have hzop : ∀ k, k < a 3 → op (up (setO a o) 4 0) k = o k := fun k hk => by
      rw [← hop k hk]
      unfold op up
      rw [if_neg (by omega)]
    have hzO : ∀ k, k < (up (setO a o) 4 0) 3 → op (up (setO a o) 4 0) k < 1073741824 := fun k hk => by
      rw [hz3] at hk
      rw [hzop k hk]
      exact (hm2 k hk).1
    have hem := n_emptyOne (c := (0, 0)) hgz (by rw [hz3]; exact hn) hzO
    have hle := n_left (c := (0, 0)) hgz (by rw [hz3]; exact hn) hzO
    rw [hz3, fnd_cong (q := fun k => decide (o k = 0)) (fun k _ h2 => by rw [hzop k (by omega)])] at hem
    rw [hz3, fb_sm_cong (g := fun k => pc 30 (o k)) (fun k hk => by rw [hzop k hk])] at hle
    have hfb := fnd_b (p := fun k => decide (o k = 0)) (d := a 3) (k := 0)
    have hsb := tot_le (o := o) hn
    unfold tot at hsb
    by_cases hemp : fnd (fun k => decide (o k = 0)) (a 3) 0 = -1
    · have hmd := mdN_left hemp (fun k hk => (hm2 k hk).1)
      by_cases hc : 0 < a 3 ∧ fb_sm (fun k => pc 30 (o k)) (a 3) = a 3
      · rw [if_pos hc] at hmd
        refine ⟨eUp (eUp g 4 0) 4 1, by rw [eUp_eUp, hmd]; exact up_rg (v := 1) hg2, ?_⟩
        refine xLd (N := 4) (n := 964) (i := 4) (F := fun zq => ev m_M_narrow 49 [some (eR 1), some (eR 0), some (eI x)] [] ([eA 0 964 (eUp g zq 0), mO P, eA 0 144 mk, eA 0 24 fr], c)) (k := 4) rfl (show wr 4 = ((4 : Nat) : Int) by decide) (by omega) ?_
        refine xCallI (N := 2) (v := fnd (fun k => decide (o k = 0)) (a 3) 0) (M2 := m_M_narrow) (pc2 := 50) (ls2 := [some (eR 1), some (eR 0), some (eI x)]) (st2 := []) (y := m_M_emptyOne) (as := [some (eR 0)]) (w2 := ([eA 0 964 (eUp g 4 0), mO P, eA 0 144 mk, eA 0 24 fr], c)) rfl (rowRd (p := 0) hem rfl rfl) (fun r50 hr50 => ?_)
        refine xEqT (N := 2) (x := r50) (y := (-1)) (A := ev m_M_narrow 64 [some (eR 1), some (eR 0), some (eI x)] [] ([eA 0 964 (eUp g 4 0), mO P, eA 0 144 mk, eA 0 24 fr], c)) (B := ev m_M_narrow 57 [some (eR 1), some (eR 0), some (eI x)] [] ([eA 0 964 (eUp g 4 0), mO P, eA 0 144 mk, eA 0 24 fr], c)) rfl (wr_id (by omega) (by omega)) (show wr (-1) = (-1) by decide) (by omega) ?_
        have e3b : eUp g 4 0 3 = (a 3 : Int) := e3
        refine xLd (N := 3) (n := 964) (i := 3) (F := fun zq => ev m_M_narrow 67 [some (eR 1), some (eR 0), some (eI x)] [eI ((eUp g 4 0) zq)] ([eA 0 964 (eUp g 4 0), mO P, eA 0 144 mk, eA 0 24 fr], c)) (k := 3) rfl (show wr 3 = ((3 : Nat) : Int) by decide) (by omega) ?_
        refine xLtT (N := 1) (x := 0) (y := (eUp g 4 0) 3) (A := ev m_M_narrow 70 [some (eR 1), some (eR 0), some (eI x)] [] ([eA 0 964 (eUp g 4 0), mO P, eA 0 144 mk, eA 0 24 fr], c)) (B := ev m_M_narrow 84 [some (eR 1), some (eR 0), some (eI x)] [] ([eA 0 964 (eUp g 4 0), mO P, eA 0 144 mk, eA 0 24 fr], c)) rfl (show wr 0 = 0 by decide) (wr_id (by omega) (by omega)) (by omega) ?_
        refine xCallI (N := 2) (v := ((fb_sm (fun k => pc 30 (o k)) (a 3) : Nat) : Int)) (M2 := m_M_narrow) (pc2 := 71) (ls2 := [some (eR 1), some (eR 0), some (eI x)]) (st2 := []) (y := m_M_left) (as := [some (eR 0)]) (w2 := ([eA 0 964 (eUp g 4 0), mO P, eA 0 144 mk, eA 0 24 fr], c)) rfl (rowRd (p := 0) hle rfl rfl) (fun r71 hr71 => ?_)
        refine xLd (N := 3) (n := 964) (i := 3) (F := fun zq => ev m_M_narrow 77 [some (eR 1), some (eR 0), some (eI x)] [eI ((eUp g 4 0) zq), eI r71] ([eA 0 964 (eUp g 4 0), mO P, eA 0 144 mk, eA 0 24 fr], c)) (k := 3) rfl (show wr 3 = ((3 : Nat) : Int) by decide) (by omega) ?_
        refine xEqT (N := 1) (x := r71) (y := (eUp g 4 0) 3) (A := ev m_M_narrow 80 [some (eR 1), some (eR 0), some (eI x)] [] ([eA 0 964 (eUp g 4 0), mO P, eA 0 144 mk, eA 0 24 fr], c)) (B := ev m_M_narrow 84 [some (eR 1), some (eR 0), some (eI x)] [] ([eA 0 964 (eUp g 4 0), mO P, eA 0 144 mk, eA 0 24 fr], c)) rfl (wr_id (by omega) (by omega)) (wr_id (by omega) (by omega)) (by omega) ?_
        refine xLd (N := 4) (n := 964) (i := 4) (F := fun zq => ev m_M_narrow 84 [some (eR 1), some (eR 0), some (eI x)] [] ([eA 0 964 (eUp (eUp g 4 0) zq 1), mO P, eA 0 144 mk, eA 0 24 fr], c)) (k := 4) rfl (show wr 4 = ((4 : Nat) : Int) by decide) (by omega) ?_
        refine xSeg (N := 1) (r := some (.inl none, ([eA 0 964 (eUp (eUp g 4 0) 4 1), mO P, eA 0 144 mk, eA 0 24 fr], c))) rfl ?_
        rfl
      · rw [if_neg hc] at hmd
        refine ⟨eUp g 4 0, by rw [hmd]; exact hgz, ?_⟩
        refine xLd (N := 4) (n := 964) (i := 4) (F := fun zq => ev m_M_narrow 49 [some (eR 1), some (eR 0), some (eI x)] [] ([eA 0 964 (eUp g zq 0), mO P, eA 0 144 mk, eA 0 24 fr], c)) (k := 4) rfl (show wr 4 = ((4 : Nat) : Int) by decide) (by omega) ?_
        refine xCallI (N := 2) (v := fnd (fun k => decide (o k = 0)) (a 3) 0) (M2 := m_M_narrow) (pc2 := 50) (ls2 := [some (eR 1), some (eR 0), some (eI x)]) (st2 := []) (y := m_M_emptyOne) (as := [some (eR 0)]) (w2 := ([eA 0 964 (eUp g 4 0), mO P, eA 0 144 mk, eA 0 24 fr], c)) rfl (rowRd (p := 0) hem rfl rfl) (fun r50 hr50 => ?_)
        refine xEqT (N := 2) (x := r50) (y := (-1)) (A := ev m_M_narrow 64 [some (eR 1), some (eR 0), some (eI x)] [] ([eA 0 964 (eUp g 4 0), mO P, eA 0 144 mk, eA 0 24 fr], c)) (B := ev m_M_narrow 57 [some (eR 1), some (eR 0), some (eI x)] [] ([eA 0 964 (eUp g 4 0), mO P, eA 0 144 mk, eA 0 24 fr], c)) rfl (wr_id (by omega) (by omega)) (show wr (-1) = (-1) by decide) (by omega) ?_
        have e3b : eUp g 4 0 3 = (a 3 : Int) := e3
        refine xLd (N := 3) (n := 964) (i := 3) (F := fun zq => ev m_M_narrow 67 [some (eR 1), some (eR 0), some (eI x)] [eI ((eUp g 4 0) zq)] ([eA 0 964 (eUp g 4 0), mO P, eA 0 144 mk, eA 0 24 fr], c)) (k := 3) rfl (show wr 3 = ((3 : Nat) : Int) by decide) (by omega) ?_
        refine xLt (N := 1) (x := 0) (y := (eUp g 4 0) 3) (A := ev m_M_narrow 70 [some (eR 1), some (eR 0), some (eI x)] [] ([eA 0 964 (eUp g 4 0), mO P, eA 0 144 mk, eA 0 24 fr], c)) (B := ev m_M_narrow 84 [some (eR 1), some (eR 0), some (eI x)] [] ([eA 0 964 (eUp g 4 0), mO P, eA 0 144 mk, eA 0 24 fr], c)) rfl (show wr 0 = 0 by decide) (wr_id (by omega) (by omega)) (fun h67 => ?_) (fun h67 => ?_)
        · refine xCallI (N := 2) (v := ((fb_sm (fun k => pc 30 (o k)) (a 3) : Nat) : Int)) (M2 := m_M_narrow) (pc2 := 71) (ls2 := [some (eR 1), some (eR 0), some (eI x)]) (st2 := []) (y := m_M_left) (as := [some (eR 0)]) (w2 := ([eA 0 964 (eUp g 4 0), mO P, eA 0 144 mk, eA 0 24 fr], c)) rfl (rowRd (p := 0) hle rfl rfl) (fun r71 hr71 => ?_)
          refine xLd (N := 3) (n := 964) (i := 3) (F := fun zq => ev m_M_narrow 77 [some (eR 1), some (eR 0), some (eI x)] [eI ((eUp g 4 0) zq), eI r71] ([eA 0 964 (eUp g 4 0), mO P, eA 0 144 mk, eA 0 24 fr], c)) (k := 3) rfl (show wr 3 = ((3 : Nat) : Int) by decide) (by omega) ?_
          refine xEq (N := 1) (x := r71) (y := (eUp g 4 0) 3) (A := ev m_M_narrow 80 [some (eR 1), some (eR 0), some (eI x)] [] ([eA 0 964 (eUp g 4 0), mO P, eA 0 144 mk, eA 0 24 fr], c)) (B := ev m_M_narrow 84 [some (eR 1), some (eR 0), some (eI x)] [] ([eA 0 964 (eUp g 4 0), mO P, eA 0 144 mk, eA 0 24 fr], c)) rfl (wr_id (by omega) (by omega)) (wr_id (by omega) (by omega)) (fun h77 => ?_) (fun h77 => ?_)
          · refine xLd (N := 4) (n := 964) (i := 4) (F := fun zq => ev m_M_narrow 84 [some (eR 1), some (eR 0), some (eI x)] [] ([eA 0 964 (eUp (eUp g 4 0) zq 1), mO P, eA 0 144 mk, eA 0 24 fr], c)) (k := 4) rfl (show wr 4 = ((4 : Nat) : Int) by decide) (by omega) ?_
            refine xSeg (N := 1) (r := some (.inl none, ([eA 0 964 (eUp (eUp g 4 0) 4 1), mO P, eA 0 144 mk, eA 0 24 fr], c))) rfl ?_
            first | rfl | (exfalso; omega)
          · refine xSeg (N := 1) (r := some (.inl none, ([eA 0 964 (eUp g 4 0), mO P, eA 0 144 mk, eA 0 24 fr], c))) rfl ?_
            first | rfl | (exfalso; omega)
        · refine xSeg (N := 1) (r := some (.inl none, ([eA 0 964 (eUp g 4 0), mO P, eA 0 144 mk, eA 0 24 fr], c))) rfl ?_
          first | rfl | (exfalso; omega)
    · have hmd : mdN (a 3) o = 2 := by unfold mdN; rw [if_pos hemp]
      refine ⟨eUp (eUp g 4 0) 4 2, by rw [eUp_eUp, hmd]; exact up_rg (v := 2) hg2, ?_⟩
      refine xLd (N := 4) (n := 964) (i := 4) (F := fun zq => ev m_M_narrow 49 [some (eR 1), some (eR 0), some (eI x)] [] ([eA 0 964 (eUp g zq 0), mO P, eA 0 144 mk, eA 0 24 fr], c)) (k := 4) rfl (show wr 4 = ((4 : Nat) : Int) by decide) (by omega) ?_
      refine xCallI (N := 2) (v := fnd (fun k => decide (o k = 0)) (a 3) 0) (M2 := m_M_narrow) (pc2 := 50) (ls2 := [some (eR 1), some (eR 0), some (eI x)]) (st2 := []) (y := m_M_emptyOne) (as := [some (eR 0)]) (w2 := ([eA 0 964 (eUp g 4 0), mO P, eA 0 144 mk, eA 0 24 fr], c)) rfl (rowRd (p := 0) hem rfl rfl) (fun r50 hr50 => ?_)
      refine xEqF (N := 2) (x := r50) (y := (-1)) (A := ev m_M_narrow 64 [some (eR 1), some (eR 0), some (eI x)] [] ([eA 0 964 (eUp g 4 0), mO P, eA 0 144 mk, eA 0 24 fr], c)) (B := ev m_M_narrow 57 [some (eR 1), some (eR 0), some (eI x)] [] ([eA 0 964 (eUp g 4 0), mO P, eA 0 144 mk, eA 0 24 fr], c)) rfl (wr_id (by omega) (by omega)) (show wr (-1) = (-1) by decide) (by omega) ?_
      refine xLd (N := 4) (n := 964) (i := 4) (F := fun zq => ev m_M_narrow 61 [some (eR 1), some (eR 0), some (eI x)] [] ([eA 0 964 (eUp (eUp g 4 0) zq 2), mO P, eA 0 144 mk, eA 0 24 fr], c)) (k := 4) rfl (show wr 4 = ((4 : Nat) : Int) by decide) (by omega) ?_
      refine xSeg (N := 2) (r := some (.inl none, ([eA 0 964 (eUp (eUp g 4 0) 4 2), mO P, eA 0 144 mk, eA 0 24 fr], c))) rfl ?_
      rfl
  have hl : ∀ d : Nat, ∀ (o : Nat → Nat) (g mk fr : Nat → Int), rg g (setO a o) → mA a o → tot (a 3) o < d → ∃ g' mk' fr' : Nat → Int, rg g' (up (setO a (nr (a 3) (sl a) (oth a) (plc a) (lt a) d o)) 4 (mdN (a 3) (nr (a 3) (sl a) (oth a) (plc a) (lt a) d o))) ∧ ev m_M_narrow 2 [some (eR 1), some (eR 0), some (eI 1)] [] ([eA 0 964 g, mO P, eA 0 144 mk, eA 0 24 fr], c) = some (.inl none, ([eA 0 964 g', mO P, eA 0 144 mk', eA 0 24 fr'], c)) := by
    intro d
    induction d with
    | zero => intro o g mk fr _ _ h; omega
    | succ d ih =>
      intro o g mk fr hg2 hm2 hd
      have hs := setO_sm (a := a) (r := o)
      have hG2 := sm_iG hs hG
      have hV2 := sm_iV hs hV
      have hs3 : (setO a o) 3 = a 3 := setO_sm 3 (by omega)
      have hs2 : (setO a o) 2 = a 2 := setO_sm 2 (by omega)
      have hm30 := hV.1
      have hO2 : iO (setO a o) := fun k hk => by
        rw [hs3] at hk
        rw [setO_op hk, hs2]
        refine ⟨(hm2 k hk).1, fun w hw => ?_⟩
        have h9 := (hm2 k hk).2 w hw
        exact ⟨h9.1, by rw [sm_wl hs (by omega), (sm_sl hs (by omega)).2.2.1]; exact h9.2⟩
      have hem := n_emptyOne (c := (0, 0)) hg2 (by rw [hs3]; exact hn) (fun k hk => (hO2 k hk).1)
      rw [hs3, fnd_cong (q := fun k => decide (o k = 0)) (fun k _ h2 => by rw [setO_op (by omega)])] at hem
      have hfb := fnd_b (p := fun k => decide (o k = 0)) (d := a 3) (k := 0)
      by_cases hemp : fnd (fun k => decide (o k = 0)) (a 3) 0 ≠ -1
      · have hnr : nr (a 3) (sl a) (oth a) (plc a) (lt a) (d + 1) o = o := if_pos hemp
        obtain ⟨g', h1, h2⟩ := he o g mk fr 1 hg2 hm2
        refine ⟨g', mk, fr, by rw [hnr]; exact h1, ?_⟩
        refine xEqF (N := 2) (x := 1) (y := 0) (A := ev m_M_narrow 45 [some (eR 1), some (eR 0), some (eI 1)] [] ([eA 0 964 g, mO P, eA 0 144 mk, eA 0 24 fr], c)) (B := ev m_M_narrow 6 [some (eR 1), some (eR 0), some (eI 1)] [] ([eA 0 964 g, mO P, eA 0 144 mk, eA 0 24 fr], c)) rfl (show wr 1 = 1 by decide) (show wr 0 = 0 by decide) (by decide) ?_
        refine xCallI (N := 2) (v := fnd (fun k => decide (o k = 0)) (a 3) 0) (M2 := m_M_narrow) (pc2 := 7) (ls2 := [some (eR 1), some (eR 0), some (eI 1)]) (st2 := []) (y := m_M_emptyOne) (as := [some (eR 0)]) (w2 := ([eA 0 964 g, mO P, eA 0 144 mk, eA 0 24 fr], c)) rfl (rowRd (p := 0) hem rfl rfl) (fun r7 hr7 => ?_)
        refine xEqF (N := 2) (x := r7) (y := (-1)) (A := ev m_M_narrow 14 [some (eR 1), some (eR 0), some (eI 1)] [] ([eA 0 964 g, mO P, eA 0 144 mk, eA 0 24 fr], c)) (B := ev m_M_narrow 45 [some (eR 1), some (eR 0), some (eI 1)] [] ([eA 0 964 g, mO P, eA 0 144 mk, eA 0 24 fr], c)) rfl (wr_id (by omega) (by omega)) (show wr (-1) = (-1) by decide) (by omega) ?_
        exact h2
      · have hnr : nr (a 3) (sl a) (oth a) (plc a) (lt a) (d + 1) o = bif chR (a 3) (sl a) (oth a) (plc a) (lt a) o then nr (a 3) (sl a) (oth a) (plc a) (lt a) d (sgR (a 3) (crR (sl a) (oth a) (plc a) (lt a) o)) else sgR (a 3) (crR (sl a) (oth a) (plc a) (lt a) o) := if_neg hemp
        -- the first half
        have hcr : ∀ k, k < a 3 → cr (setO a o) k = crR (sl a) (oth a) (plc a) (lt a) o k := fun k hk => cr_cong hs hG hV (fun k hk => setO_op hk) hm2 hk
        have hdu := n_dropUnsupported (P := P) (mk := mk) (fr := fr) (c := c) hg2 hG2 hV2 hO2
        have hgc := oF_rg (r := cr (setO a o)) hg2
        rw [hs3, setO_setO, setO_cong (q := crR (sl a) (oth a) (plc a) (lt a) o) hcr] at hgc
        rw [hs3, anyN_cong (q := fun k => decide (crR (sl a) (oth a) (plc a) (lt a) o k ≠ o k)) (fun k hk => by rw [hcr k hk, setO_op hk])] at hdu
        generalize oF (cr (setO a o)) g (a 3) = g2 at hdu hgc
        generalize ofF (sl (setO a o)) (mkf (setO a o)) mk (a 3) 0 = mk2 at hdu
        generalize cF (cr (setO a o)) fr (a 3) = fr2 at hdu
        have hmc : mA a (crR (sl a) (oth a) (plc a) (lt a) o) := mB_sub hm2 (fun k _ => crR_sub)
        generalize hC : crR (sl a) (oth a) (plc a) (lt a) o = C at hdu hgc hmc hnr
        -- the second half
        have hc3 : (setO a C) 3 = a 3 := setO_sm 3 (by omega)
        have hsg : ∀ k, k < a 3 → sg (setO a C) k = sgR (a 3) C k := fun k hk => by
          unfold sg
          rw [hc3]
          exact sgR_cong (fun k hk => setO_op hk) hk
        have hdd := n_dropDoubles (P := P) (mk := mk2) (fr := fr2) (c := c) hgc (by rw [hc3]; exact hn) (fun k hk => by rw [hc3] at hk; rw [setO_op hk]; exact (hmc k hk).1)
        have hgs := oF_rg (r := sg (setO a C)) hgc
        rw [hc3, setO_setO, setO_cong (q := sgR (a 3) C) hsg] at hgs
        rw [hc3, anyN_cong (q := fun k => decide (sgR (a 3) C k ≠ C k)) (fun k hk => by rw [hsg k hk, setO_op hk])] at hdd
        generalize oF (sg (setO a C)) g2 (a 3) = g3 at hdd hgs
        generalize cF (sg (setO a C)) fr2 (a 3) = fr3 at hdd
        have hms : mA a (sgR (a 3) C) := mB_sub hmc (fun k _ => sgR_sub)
        have hch : chR (a 3) (sl a) (oth a) (plc a) (lt a) o = (anyN (fun k => decide (C k ≠ o k)) (a 3) || anyN (fun k => decide (sgR (a 3) C k ≠ C k)) (a 3)) := by rw [← hC]; rfl
        have hrd : ∀ R : eRes, (∀ x : Int, x = bI (chR (a 3) (sl a) (oth a) (plc a) (lt a) o) → ev m_M_narrow 2 [some (eR 1), some (eR 0), some (eI x)] [] ([eA 0 964 g3, mO P, eA 0 144 mk2, eA 0 24 fr3], c) = R) → ev m_M_narrow 2 [some (eR 1), some (eR 0), some (eI 1)] [] ([eA 0 964 g, mO P, eA 0 144 mk, eA 0 24 fr], c) = R := by
          intro R hR
          rw [hch] at hR
          refine xEqF (N := 2) (x := 1) (y := 0) (A := ev m_M_narrow 45 [some (eR 1), some (eR 0), some (eI 1)] [] ([eA 0 964 g, mO P, eA 0 144 mk, eA 0 24 fr], c)) (B := ev m_M_narrow 6 [some (eR 1), some (eR 0), some (eI 1)] [] ([eA 0 964 g, mO P, eA 0 144 mk, eA 0 24 fr], c)) rfl (show wr 1 = 1 by decide) (show wr 0 = 0 by decide) (by decide) ?_
          refine xCallI (N := 2) (v := fnd (fun k => decide (o k = 0)) (a 3) 0) (M2 := m_M_narrow) (pc2 := 7) (ls2 := [some (eR 1), some (eR 0), some (eI 1)]) (st2 := []) (y := m_M_emptyOne) (as := [some (eR 0)]) (w2 := ([eA 0 964 g, mO P, eA 0 144 mk, eA 0 24 fr], c)) rfl (rowRd (p := 0) hem rfl rfl) (fun r7 hr7 => ?_)
          refine xEqT (N := 2) (x := r7) (y := (-1)) (A := ev m_M_narrow 14 [some (eR 1), some (eR 0), some (eI 1)] [] ([eA 0 964 g, mO P, eA 0 144 mk, eA 0 24 fr], c)) (B := ev m_M_narrow 45 [some (eR 1), some (eR 0), some (eI 1)] [] ([eA 0 964 g, mO P, eA 0 144 mk, eA 0 24 fr], c)) rfl (wr_id (by omega) (by omega)) (show wr (-1) = (-1) by decide) (by omega) ?_
          refine xCallWI (N := 3) (v := bI (anyN (fun k => decide (C k ≠ o k)) (a 3))) (M2 := m_M_narrow) (pc2 := 16) (ls2 := [some (eR 1), some (eR 0), some (eI 1)]) (st2 := []) (y := m_M_dropUnsupported) (as := [some (eR 1), some (eR 0)]) (w2 := ([eA 0 964 g, mO P, eA 0 144 mk, eA 0 24 fr], c)) rfl hdu (fun r16 hr16 => ?_)
          refine xCallWI (N := 4) (v := bI (anyN (fun k => decide (sgR (a 3) C k ≠ C k)) (a 3))) (M2 := m_M_narrow) (pc2 := 22) (ls2 := [some (eR 1), some (eR 0), some (eI 1), some (eI r16)]) (st2 := []) (y := m_M_dropDoubles) (as := [some (eR 1), some (eR 0)]) (w2 := ([eA 0 964 g2, mO P, eA 0 144 mk2, eA 0 24 fr2], c)) rfl hdd (fun r22 hr22 => ?_)
          have hq1 := bI_1 hr16
          have hq2 := bI_1 hr22
          refine xEq (N := 3) (x := r16) (y := 0) (A := ev m_M_narrow 31 [some (eR 1), some (eR 0), some (eI 1), some (eI r16), some (eI r22)] [] ([eA 0 964 g3, mO P, eA 0 144 mk2, eA 0 24 fr3], c)) (B := ev m_M_narrow 36 [some (eR 1), some (eR 0), some (eI 1), some (eI r16), some (eI r22)] [] ([eA 0 964 g3, mO P, eA 0 144 mk2, eA 0 24 fr3], c)) rfl (wr_id (by omega) (by omega)) (show wr 0 = 0 by decide) (fun h28 => ?_) (fun h28 => ?_)
          · refine xEq (N := 2) (x := r22) (y := 0) (A := ev m_M_narrow 40 [some (eR 1), some (eR 0), some (eI 1), some (eI r16), some (eI r22)] [] ([eA 0 964 g3, mO P, eA 0 144 mk2, eA 0 24 fr3], c)) (B := ev m_M_narrow 36 [some (eR 1), some (eR 0), some (eI 1), some (eI r16), some (eI r22)] [] ([eA 0 964 g3, mO P, eA 0 144 mk2, eA 0 24 fr3], c)) rfl (wr_id (by omega) (by omega)) (show wr 0 = 0 by decide) (fun h33 => ?_) (fun h33 => ?_)
            · refine xSeg (N := 3) (r := ev m_M_narrow 2 [some (eR 1), some (eR 0), some (eI 0), some (eI r16), some (eI r22)] [] ([eA 0 964 g3, mO P, eA 0 144 mk2, eA 0 24 fr3], c)) rfl ?_
              refine xTk 3 (by rfl) rfl ?_
              first | exact hR 1 (bT (by rw [hq1.2.1.mp (by omega)]; rfl)) | exact hR 1 (bT (by rw [hq2.2.1.mp (by omega), Bool.or_true])) | exact hR 0 (bF (by rw [hq1.2.2.mp (by omega), hq2.2.2.mp (by omega)]; rfl))
            · refine xSeg (N := 4) (r := ev m_M_narrow 2 [some (eR 1), some (eR 0), some (eI 1), some (eI r16), some (eI r22)] [] ([eA 0 964 g3, mO P, eA 0 144 mk2, eA 0 24 fr3], c)) rfl ?_
              refine xTk 3 (by rfl) rfl ?_
              first | exact hR 1 (bT (by rw [hq1.2.1.mp (by omega)]; rfl)) | exact hR 1 (bT (by rw [hq2.2.1.mp (by omega), Bool.or_true])) | exact hR 0 (bF (by rw [hq1.2.2.mp (by omega), hq2.2.2.mp (by omega)]; rfl))
          · refine xSeg (N := 4) (r := ev m_M_narrow 2 [some (eR 1), some (eR 0), some (eI 1), some (eI r16), some (eI r22)] [] ([eA 0 964 g3, mO P, eA 0 144 mk2, eA 0 24 fr3], c)) rfl ?_
            refine xTk 3 (by rfl) rfl ?_
            first | exact hR 1 (bT (by rw [hq1.2.1.mp (by omega)]; rfl)) | exact hR 1 (bT (by rw [hq2.2.1.mp (by omega), Bool.or_true])) | exact hR 0 (bF (by rw [hq1.2.2.mp (by omega), hq2.2.2.mp (by omega)]; rfl))
        cases hcc : chR (a 3) (sl a) (oth a) (plc a) (lt a) o with
        | true =>
          rw [hcc, cond_true] at hnr
          have htl : tot (a 3) (sgR (a 3) C) < tot (a 3) o := by
            refine tot_less (fun k hk => ⟨(hm2 k hk).1, sgR_sub.1, fun w hw => ?_⟩) ?_
            · have h9 := sgR_sub.2 w hw
              rw [← hC] at h9
              exact crR_sub.2 w h9
            · have h8 := hcc
              rw [hch] at h8
              rcases Bool.or_eq_true_iff.mp h8 with h7 | h7
              · obtain ⟨k, hk, h6⟩ := anyN_iff.mp h7
                have h5 := of_decide_eq_true h6
                refine ⟨k, hk, fun e => h5 ?_⟩
                refine eqb (hmc k hk).1 (hm2 k hk).1 (fun w hw => ?_)
                cases hb : (o k).testBit w with
                | true =>
                  rw [← e] at hb
                  exact sgR_sub.2 w hb
                | false =>
                  cases hb2 : (C k).testBit w with
                  | true =>
                    rw [← hC] at hb2
                    rw [crR_sub.2 w hb2] at hb
                    cases hb
                  | false => rfl
              · obtain ⟨k, hk, h6⟩ := anyN_iff.mp h7
                have h5 := of_decide_eq_true h6
                refine ⟨k, hk, fun e => h5 ?_⟩
                refine eqb sgR_sub.1 (hmc k hk).1 (fun w hw => ?_)
                cases hb : (C k).testBit w with
                | true =>
                  have hb3 := hb
                  rw [← hC] at hb3
                  rw [e]
                  exact crR_sub.2 w hb3
                | false =>
                  cases hb2 : (sgR (a 3) C k).testBit w with
                  | true => rw [sgR_sub.2 w hb2] at hb; cases hb
                  | false => rfl
          obtain ⟨g', mk', fr', h1, h2⟩ := ih (sgR (a 3) C) g3 mk2 fr3 hgs hms (by omega)
          refine ⟨g', mk', fr', by rw [hnr]; exact h1, hrd _ (fun x hx => ?_)⟩
          rw [hcc] at hx
          rw [show x = 1 from hx]
          exact h2
        | false =>
          rw [hcc, cond_false] at hnr
          obtain ⟨g', h1, h2⟩ := he (sgR (a 3) C) g3 mk2 fr3 0 hgs hms
          refine ⟨g', mk2, fr3, by rw [hnr]; exact h1, hrd _ (fun x hx => ?_)⟩
          rw [hcc] at hx
          rw [show x = 0 from hx]
          refine xEqT (N := 2) (x := 0) (y := 0) (A := ev m_M_narrow 45 [some (eR 1), some (eR 0), some (eI 0)] [] ([eA 0 964 g3, mO P, eA 0 144 mk2, eA 0 24 fr3], c)) (B := ev m_M_narrow 6 [some (eR 1), some (eR 0), some (eI 0)] [] ([eA 0 964 g3, mO P, eA 0 144 mk2, eA 0 24 fr3], c)) rfl (show wr 0 = 0 by decide) (show wr 0 = 0 by decide) (by decide) ?_
          exact h2
  have hgo : rg g (setO a (op a)) := rg_cong hg (fun i hi => by
    unfold setO op
    by_cases h : 316 ≤ i ∧ i < 316 + a 3
    · rw [if_pos h, show 316 + (i - 316) = i by omega]
    · rw [if_neg h])
  obtain ⟨g', mk', fr', h1, h2⟩ := hl 721 (op a) g mk fr hgo (iO_mA hO) (by have := tot_le (o := op a) hn; omega)
  refine ⟨g', mk', fr', h1, ?_⟩
  refine xSeg (N := 2) (r := ev m_M_narrow 2 [some (eR 1), some (eR 0), some (eI 1)] [] ([eA 0 964 g, mO P, eA 0 144 mk, eA 0 24 fr], c)) rfl ?_
  exact h2
