/-! Windows in a world: the places of a window are b 0 .. b 19. -/
def wLf (b : Nat → Nat) : List Nat := [b 0, b 1, b 2, b 3, b 4, b 5, b 6, b 7, b 8, b 9, b 10, b 11, b 12, b 13, b 14, b 15, b 16, b 17, b 18, b 19]
def wCf (b : Nat → Nat) (S : wS) : List eC := [eO 4 [eR (b 1), eR (b 11), eR (b 15), eI (S 0 3), eI (S 0 4), eR (b 16), eR (b 17), eR (b 18), eI (S 0 8), eI (S 0 9), eI (S 0 10), eR (b 19)],
  eO 0 [eI (S 1 0), eI (S 1 1), eR (b 2), eR (b 3), eI (S 1 4), eR (b 4), eR (b 5), eR (b 6), eR (b 7), eR (b 8), eR (b 9), eR (b 10)],
  eA 1 36 (S 2), eA 0 36 (S 3), eA 0 24 (S 4), eA 0 24 (S 5), eA 1 24 (S 6), eA 0 36 (S 7), eA 0 36 (S 8), eA 0 144 (S 9), eA 0 144 (S 10),
  eO 5 [eI (S 11 0), eR (b 12), eR (b 13), eR (b 14)], eA 0 30 (S 12), eA 0 180 (S 13), eA 0 26 (S 14), eA 0 24 (S 15), eA 0 24 (S 16), eA 0 24 (S 17), eA 0 576 (S 18), eA 0 144 (S 19)]
def winAt (V : List eC) (b : Nat → Nat) (S : wS) : Prop := atL V (wLf b) (wCf b S)
def inj20 (b : Nat → Nat) : Prop := ∀ i j, i < 20 → j < 20 → b i = b j → i = j
def apart (b b' : Nat → Nat) : Prop := ∀ i j, i < 20 → j < 20 → b i ≠ b' j
theorem ninL_iff {a : Nat} : ∀ {l : List Nat}, (∀ x ∈ l, a ≠ x) → ninL a l = true
  | [], _ => rfl
  | b :: l, h => by
    show (!Nat.beq a b && ninL a l) = true
    rw [ninL_iff (fun x hx => h x (List.mem_cons_of_mem _ hx)), Bool.and_true]
    have hne := h b List.mem_cons_self
    cases hb : Nat.beq a b with
    | false => rfl
    | true => exact absurd (Nat.eq_of_beq_eq_true hb) hne
theorem dstL_of : ∀ {l : List Nat}, l.Nodup → dstL l = true
  | [], _ => rfl
  | a :: l, h => by
    obtain ⟨h1, h2⟩ := List.nodup_cons.mp h
    show (ninL a l && dstL l) = true
    rw [ninL_iff (fun x hx e => h1 (by rw [e]; exact hx)), dstL_of h2]
    rfl
theorem wLf_map {b : Nat → Nat} : wLf b = (List.range 20).map b := rfl
theorem wLf_mem {b : Nat → Nat} {x : Nat} (h : x ∈ wLf b) : ∃ i, i < 20 ∧ x = b i := by
  rw [wLf_map, List.mem_map] at h
  obtain ⟨i, h1, h2⟩ := h
  exact ⟨i, List.mem_range.mp h1, h2.symm⟩
theorem wLf_in {b : Nat → Nat} {i : Nat} (h : i < 20) : b i ∈ wLf b := by
  rw [wLf_map, List.mem_map]
  exact ⟨i, List.mem_range.mpr h, rfl⟩
theorem wLf_nodup {b : Nat → Nat} (h : inj20 b) : (wLf b).Nodup := by
  rw [wLf_map]
  refine List.Pairwise.map b ?_ (List.nodup_range.imp_of_mem (S := fun i j => i < 20 ∧ j < 20 ∧ i ≠ j) (fun ha hb hne => ⟨List.mem_range.mp ha, List.mem_range.mp hb, hne⟩))
  intro i j hij e
  exact hij.2.2 (h i j hij.1 hij.2.1 e)
theorem wLf_dst {b : Nat → Nat} (h : inj20 b) : dstL (wLf b) = true := dstL_of (wLf_nodup h)
theorem wLf_dst2 {b b' : Nat → Nat} (h : inj20 b) (h' : inj20 b') (ha : apart b b') : dstL (wLf b ++ wLf b') = true := by
  refine dstL_of (List.nodup_append.mpr ⟨wLf_nodup h, wLf_nodup h', fun x hx y hy e => ?_⟩)
  obtain ⟨i, hi, h1⟩ := wLf_mem hx
  obtain ⟨j, hj, h2⟩ := wLf_mem hy
  exact ha i j hi hj (by rw [← h1, ← h2, e])
theorem wLf_nin {b : Nat → Nat} {k : Nat} (h : ∀ i, i < 20 → k ≠ b i) : ninL k (wLf b) = true := ninL_iff (fun x hx e => by
  obtain ⟨i, hi, h1⟩ := wLf_mem hx
  exact h i hi (by rw [e, h1]))
theorem ninL_app {k : Nat} : ∀ {l l' : List Nat}, ninL k l = true → ninL k l' = true → ninL k (l ++ l') = true
  | [], _, _, h => h
  | a :: l, l', h, h' => by
    obtain ⟨h1, h2⟩ := Bool.and_eq_true_iff.mp h
    show (!Nat.beq k a && ninL k (l ++ l')) = true
    rw [h1, ninL_app h2 h']
    rfl
theorem wC_wCf {σ : Nat → eV} {b : Nat → Nat} {S : wS} : (wC S).map (rC σ (wLf b)) = wCf b S := rfl
theorem winAt_sb {V V' : List eC} {b : Nat → Nat} {S : wS} {α : List Nat} (h : winAt V b S) (s : sb V V' α) (hn : ∀ i, i < 20 → ninL (b i) α = true) : winAt V' b S := atL_sb s (fun k hk => by
  obtain ⟨i, hi, h1⟩ := wLf_mem hk
  rw [h1]
  exact hn i hi) h
theorem winAt_obj {V : List eC} {b : Nat → Nat} {S : wS} (h : winAt V b S) : eNth V (b 0) = some (eO 4 [eR (b 1), eR (b 11), eR (b 15), eI (S 0 3), eI (S 0 4), eR (b 16), eR (b 17), eR (b 18), eI (S 0 8), eI (S 0 9), eI (S 0 10), eR (b 19)]) := h.1
/-- a window's method in V -/
theorem winR {V : List eC} {b : Nat → Nat} {S S' : wS} {y : Nat} {as as' : eL} {o o' : Option eV ⊕ Nat} {d : Nat × Nat} (h : ev y 0 as [] (wC S, (0, 0)) = some (o, (wC S', (0, 0)))) (hw : winAt V b S) (hi : inj20 b) (ha : okLU eSt 20 as = true) (has : rL eSt (wLf b) as = as') (ho : rO eSt (wLf b) o = o') : ∃ V', ev y 0 as' [] (V, d) = some (o', (V', d)) ∧ winAt V' b S' ∧ sb V V' (wLf b) :=
  xAtR (σ := eSt) (α := wLf b) h hw rfl rfl rfl rfl (wLf_dst hi) ha has ho
theorem winV {V : List eC} {b : Nat → Nat} {S : wS} {y : Nat} {as as' : eL} {o o' : Option eV ⊕ Nat} {d : Nat × Nat} (h : ev y 0 as [] (wC S, (0, 0)) = some (o, (wC S, (0, 0)))) (hw : winAt V b S) (hi : inj20 b) (ha : okLU eSt 20 as = true) (has : rL eSt (wLf b) as = as') (ho : rO eSt (wLf b) o = o') : ev y 0 as' [] (V, d) = some (o', (V, d)) :=
  xAtV (σ := eSt) (α := wLf b) h hw rfl rfl (wLf_dst hi) ha has ho
/-- a window becomes what another one is -/
theorem winCp {V : List eC} {b b' : Nat → Nat} {S T : wS} {d : Nat × Nat} (h1 : winAt V b S) (h2 : winAt V b' T) (hi : inj20 b) (hi' : inj20 b') (ha : apart b b') : ∃ V', ev m_W_copyFrom 0 [some (eR (b 0)), some (eR (b' 0))] [] (V, d) = some (.inl none, (V', d)) ∧ winAt V' b (cpW S T) ∧ winAt V' b' T ∧ sb V V' (wLf b ++ wLf b') := by
  have hg : atL V (wLf b ++ wLf b') ((wC S ++ wCb 20 T).map (rC eSt (wLf b ++ wLf b'))) := by
    rw [List.map_append]
    exact atL_app h1 h2
  obtain ⟨V', q1, q2, q3⟩ := xAtR (σ := eSt) (α := wLf b ++ wLf b') (d := d) (c_copyFrom (S := S) (T := T) (c := (0, 0))) hg rfl rfl rfl rfl (wLf_dst2 hi hi' ha) (as' := [some (eR (b 0)), some (eR (b' 0))]) (o' := .inl none) rfl rfl rfl
  rw [List.map_append] at q2
  have hs : ∀ {as bs : List Nat} {cs ds : List eC}, as.length = cs.length → atL V' (as ++ bs) (cs ++ ds) → atL V' as cs ∧ atL V' bs ds := by
    intro as
    induction as with
    | nil => intro bs cs ds hl h; cases cs with
      | nil => exact ⟨trivial, h⟩
      | cons _ _ => simp at hl
    | cons a as ih => intro bs cs ds hl h; cases cs with
      | nil => simp at hl
      | cons c cs =>
        obtain ⟨i1, i2⟩ := ih (by simpa using hl) h.2
        exact ⟨⟨h.1, i1⟩, i2⟩
  obtain ⟨q4, q5⟩ := hs rfl q2
  exact ⟨V', q1, q4, q5, q3⟩
/-- the window of a new object -/
def wS0 : wS := fun _ _ => 0
set_option maxRecDepth 100000
theorem c_ginit {x : eC} {c : Nat × Nat} : ev m_G_init 0 [some (eR 1)] [] ([x, eO 0 (eDefs 0)], c) = some (.inl none, ([x, eO 0 [eI 0, eI 0, eR 2, eR 3, eI 0, eR 4, eR 5, eR 6, eR 7, eR 8, eR 9, eR 10], eA 1 36 (fun _ => 0), eA 0 36 (fun _ => 0), eA 0 24 (fun _ => 0), eA 0 24 (fun _ => 0), eA 1 24 (fun _ => 0), eA 0 36 (fun _ => 0), eA 0 36 (fun _ => 0), eA 0 144 (fun _ => 0), eA 0 144 (fun _ => 0)], (c.1 + 9, c.2 + 504))) := by
  refine xSeg (N := 10) (r := ev m_G_init 20 [some (eR 1)] [] ([x, eO 0 [eI 0, eI 0, eR 2, eR 3, eI 0, eNul, eNul, eNul, eNul, eNul, eNul, eNul], eA 1 36 (fun _ => 0), eA 0 36 (fun _ => 0)], (c.1 + 2, c.2 + 72))) rfl ?_
  refine xSeg (N := 8) (r := ev m_G_init 36 [some (eR 1)] [] ([x, eO 0 [eI 0, eI 0, eR 2, eR 3, eI 0, eR 4, eR 5, eNul, eNul, eNul, eNul, eNul], eA 1 36 (fun _ => 0), eA 0 36 (fun _ => 0), eA 0 24 (fun _ => 0), eA 0 24 (fun _ => 0)], (c.1 + 4, c.2 + 120))) rfl ?_
  refine xSeg (N := 8) (r := ev m_G_init 52 [some (eR 1)] [] ([x, eO 0 [eI 0, eI 0, eR 2, eR 3, eI 0, eR 4, eR 5, eR 6, eR 7, eNul, eNul, eNul], eA 1 36 (fun _ => 0), eA 0 36 (fun _ => 0), eA 0 24 (fun _ => 0), eA 0 24 (fun _ => 0), eA 1 24 (fun _ => 0), eA 0 36 (fun _ => 0)], (c.1 + 6, c.2 + 180))) rfl ?_
  refine xSeg (N := 8) (r := ev m_G_init 69 [some (eR 1)] [] ([x, eO 0 [eI 0, eI 0, eR 2, eR 3, eI 0, eR 4, eR 5, eR 6, eR 7, eR 8, eR 9, eNul], eA 1 36 (fun _ => 0), eA 0 36 (fun _ => 0), eA 0 24 (fun _ => 0), eA 0 24 (fun _ => 0), eA 1 24 (fun _ => 0), eA 0 36 (fun _ => 0), eA 0 36 (fun _ => 0), eA 0 144 (fun _ => 0)], (c.1 + 8, c.2 + 360))) rfl ?_
  refine xSeg (N := 5) (r := some (.inl none, ([x, eO 0 [eI 0, eI 0, eR 2, eR 3, eI 0, eR 4, eR 5, eR 6, eR 7, eR 8, eR 9, eR 10], eA 1 36 (fun _ => 0), eA 0 36 (fun _ => 0), eA 0 24 (fun _ => 0), eA 0 24 (fun _ => 0), eA 1 24 (fun _ => 0), eA 0 36 (fun _ => 0), eA 0 36 (fun _ => 0), eA 0 144 (fun _ => 0), eA 0 144 (fun _ => 0)], (c.1 + 9, c.2 + 504)))) rfl ?_
  rfl
theorem c_vinit {x0 x1 x2 x3 x4 x5 x6 x7 x8 x9 x10 : eC} {c : Nat × Nat} : ev m_V_init 0 [some (eR 11)] [] ([x0, x1, x2, x3, x4, x5, x6, x7, x8, x9, x10, eO 5 (eDefs 5)], c) = some (.inl none, ([x0, x1, x2, x3, x4, x5, x6, x7, x8, x9, x10, eO 5 [eI 0, eR 12, eR 13, eR 14], eA 0 30 (fun _ => 0), eA 0 180 (fun _ => 0), eA 0 26 (fun _ => 0)], (c.1 + 3, c.2 + 236))) := by
  refine xSeg (N := 15) (r := some (.inl none, ([x0, x1, x2, x3, x4, x5, x6, x7, x8, x9, x10, eO 5 [eI 0, eR 12, eR 13, eR 14], eA 0 30 (fun _ => 0), eA 0 180 (fun _ => 0), eA 0 26 (fun _ => 0)], (c.1 + 3, c.2 + 236)))) rfl ?_
  rfl
theorem c_winit : ev m_W_init 0 [some (eR 0)] [] ([eO 4 (eDefs 4)], (0, 0)) = some (.inl none, (wC wS0, (19, 1548))) := by
  refine xCallV (N := 6) (M2 := m_W_init) (pc2 := 9) (ls2 := [some (eR 0)]) (st2 := [eR 1, eR 0]) (y := m_G_init) (as := [some (eR 1)]) (w2 := ([eO 4 [eNul, eNul, eNul, eI 0, eI 0, eNul, eNul, eNul, eI 0, eI 0, eI 0, eNul], eO 0 [eI 0, eI 0, eNul, eNul, eI 0, eNul, eNul, eNul, eNul, eNul, eNul, eNul]], ((0, 0).1 + 1, (0, 0).2 + 12))) rfl c_ginit ?_
  refine xCallV (N := 5) (M2 := m_W_init) (pc2 := 20) (ls2 := [some (eR 0)]) (st2 := [eR 11, eR 0]) (y := m_V_init) (as := [some (eR 11)]) (w2 := ([eO 4 [eR 1, eNul, eNul, eI 0, eI 0, eNul, eNul, eNul, eI 0, eI 0, eI 0, eNul], eO 0 [eI 0, eI 0, eR 2, eR 3, eI 0, eR 4, eR 5, eR 6, eR 7, eR 8, eR 9, eR 10], eA 1 36 (fun _ => 0), eA 0 36 (fun _ => 0), eA 0 24 (fun _ => 0), eA 0 24 (fun _ => 0), eA 1 24 (fun _ => 0), eA 0 36 (fun _ => 0), eA 0 36 (fun _ => 0), eA 0 144 (fun _ => 0), eA 0 144 (fun _ => 0), eO 5 [eI 0, eNul, eNul, eNul]], (((0 + 1) + 9, (0 + 12) + 504).1 + 1, ((0 + 1) + 9, (0 + 12) + 504).2 + 4))) rfl c_vinit ?_
  refine xSeg (N := 22) (r := some (.inl none, ([eO 4 [eR 1, eR 11, eR 15, eI 0, eI 0, eR 16, eR 17, eR 18, eI 0, eI 0, eI 0, eR 19], eO 0 [eI 0, eI 0, eR 2, eR 3, eI 0, eR 4, eR 5, eR 6, eR 7, eR 8, eR 9, eR 10], eA 1 36 (fun _ => 0), eA 0 36 (fun _ => 0), eA 0 24 (fun _ => 0), eA 0 24 (fun _ => 0), eA 1 24 (fun _ => 0), eA 0 36 (fun _ => 0), eA 0 36 (fun _ => 0), eA 0 144 (fun _ => 0), eA 0 144 (fun _ => 0), eO 5 [eI 0, eR 12, eR 13, eR 14], eA 0 30 (fun _ => 0), eA 0 180 (fun _ => 0), eA 0 26 (fun _ => 0), eA 0 24 (fun _ => 0), eA 0 24 (fun _ => 0), eA 0 24 (fun _ => 0), eA 0 576 (fun _ => 0), eA 0 144 (fun _ => 0)], ((((0 + 1) + 9 + 1) + 3, ((0 + 12) + 504 + 4) + 236).1 + 5, (((0 + 1) + 9 + 1) + 3, ((0 + 12) + 504 + 4) + 236).2 + 792)))) rfl ?_
  rfl
