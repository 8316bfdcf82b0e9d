/-! The class's windows that are kept: the ring's, the saved. -/
def CHx (V : List eC) (wd : wdT) (f q : Nat → Option Nat) (hN hC : Int) : Prop := (eNth V 66 = some (eO 1 [eR 67, eI hN, eI hC]) ∧ eNth V 67 = some (eQ 8 f) ∧ eNth V 68 = some (eQ 2 q)) ∧ (∀ i, i < 8 → f i = (wd i).map ht0) ∧ (∀ i, i < 2 → q i = (wd (8 + i)).map ht0) ∧ wdOk V wd ∧ 82 ≤ V.length
def upW (wd : wdT) (i : Nat) (z : (Nat → Nat) × wS) : wdT := fun k => if k = i then some z else wd k
theorem upW_at {wd : wdT} {i : Nat} {z : (Nat → Nat) × wS} : upW wd i z i = some z := if_pos rfl
theorem upW_ne {wd : wdT} {i k : Nat} {z : (Nat → Nat) × wS} (h : k ≠ i) : upW wd i z k = wd k := if_neg h
theorem CH_x {V : List eC} {hn : Nat} {h : Nat → eRow} {s : Nat → Option eRow} : CH V hn h s ↔ ∃ (wd : wdT) (f q : Nat → Option Nat) (hN hC : Int) (nx : Nat), CHx V wd f q hN hC ∧ (hC = (hn : Int) ∧ hn ≤ 8 ∧ hN = (nx : Int) ∧ nx < 8) ∧ hsC wd nx hn h ∧ svC wd s := by
  constructor
  · intro ⟨wd, f, q, hN, hC, nx, c1, c2, c3, c4, c5, c6, c7, c8⟩
    exact ⟨wd, f, q, hN, hC, nx, ⟨c1, c3, c4, c7, c8⟩, c2, c5, c6⟩
  · intro ⟨wd, f, q, hN, hC, nx, ⟨c1, c3, c4, c7, c8⟩, c2, c5, c6⟩
    exact ⟨wd, f, q, hN, hC, nx, c1, c2, c3, c4, c5, c6, c7, c8⟩
theorem atL_mem {V : List eC} : ∀ {as : List Nat} {cs : List eC}, atL V as cs → ∀ k, k ∈ as → k < V.length
  | [], _, _, k, hk => by cases hk
  | a :: as, [], h, k, hk => h.elim
  | a :: as, c :: cs, h, k, hk => by
    rcases List.mem_cons.mp hk with e | e
    · rw [e]; exact eNth_lt h.1
    · exact atL_mem h.2 k e
theorem winAt_lt {V : List eC} {b : Nat → Nat} {S : wS} (h : winAt V b S) {i : Nat} (hi : i < 20) : b i < V.length := atL_mem h _ (wLf_in hi)
theorem inj_bC : inj20 bC := fun i j _ _ e => by
  have e : 26 + i = 26 + j := e
  omega
/-- the current window is copied into a kept one -/
theorem chx_cp {V V' : List eC} {wd : wdT} {f q : Nat → Option Nat} {hN hC : Int} {i : Nat} {b : Nat → Nat} {T0 T1 : wS} (c : CHx V wd f q hN hC) (hi : i < 10) (hw : wd i = some (b, T0)) (hs : sb V V' (wLf b ++ wLf bC)) (hat : winAt V' b T1) : CHx V' (upW wd i (b, T1)) f q hN hC := by
  obtain ⟨⟨c1, c2, c3⟩, c4, c5, ⟨c6, c7⟩, c8⟩ := c
  obtain ⟨d1, d2, d3⟩ := c6 i b T0 hi hw
  have hk : ∀ k, 66 ≤ k → (∀ j, j < 20 → k ≠ b j) → eNth V' k = eNth V k := fun k h1 h2 => hs.2 k (ninL_app (wLf_nin h2) (wLf_nin (fun j hj => by show k ≠ 26 + j; omega)))
  have hl : ∀ k, 66 ≤ k → k < 82 → eNth V' k = eNth V k := fun k h1 h2 => hk k h1 (fun j hj => by have := d2 j hj; omega)
  refine ⟨⟨(hl 66 (by omega) (by omega)).trans c1, (hl 67 (by omega) (by omega)).trans c2, (hl 68 (by omega) (by omega)).trans c3⟩, fun k hk => ?_, fun k hk => ?_, ⟨fun k b' S' hk' e => ?_, fun k l b' S' b2 S2 h1 h2 h3 e1 e2 => ?_⟩, by rw [hs.1]; exact c8⟩
  · rw [c4 k hk]
    by_cases h : k = i
    · rw [h, upW_at, hw]; rfl
    · rw [upW_ne h]
  · rw [c5 k hk]
    by_cases h : 8 + k = i
    · rw [h, upW_at, hw]; rfl
    · rw [upW_ne h]
  · by_cases h : k = i
    · rw [h, upW_at] at e
      cases e
      exact ⟨d1, d2, hat⟩
    · rw [upW_ne h] at e
      obtain ⟨x1, x2, x3⟩ := c6 k b' S' hk' e
      have ha := c7 k i b' S' b T0 hk' hi h e hw
      exact ⟨x1, x2, wat_fr x3 (fun j hj => hk _ (by have := x2 j hj; omega) (fun l hl => ha j l hj hl))⟩
  · have g1 : ∃ S9, wd k = some (b', S9) := by
      by_cases h : k = i
      · rw [h, upW_at] at e1; cases e1; exact ⟨T0, by rw [h]; exact hw⟩
      · rw [upW_ne h] at e1; exact ⟨S', e1⟩
    have g2 : ∃ S9, wd l = some (b2, S9) := by
      by_cases h : l = i
      · rw [h, upW_at] at e2; cases e2; exact ⟨T0, by rw [h]; exact hw⟩
      · rw [upW_ne h] at e2; exact ⟨S2, e2⟩
    obtain ⟨S8, g1⟩ := g1
    obtain ⟨S9, g2⟩ := g2
    exact c7 k l b' S8 b2 S9 h1 h2 h3 g1 g2
/-- a kept one is made -/
theorem chx_nw {V V2 V3 : List eC} {wd : wdT} {f q f' q' : Nat → Option Nat} {hN hC : Int} {i r : Nat} {b : Nat → Nat} (c : CHx V wd f q hN hC) (hi : i < 10) (hw : wd i = none) (hb : winAt V2 b wS0) (hj : inj20 b) (hf : ∀ k, k < V.length → eNth V2 k = eNth V k) (hg : ∀ j, j < 20 → V.length ≤ b j) (hlt : V.length < V2.length) (hr : r = 67 ∨ r = 68) (hs : sb V2 V3 [r]) (hq : eNth V3 67 = some (eQ 8 f') ∧ eNth V3 68 = some (eQ 2 q')) (hf' : ∀ k, k < 8 → f' k = if k = i then some (b 0) else f k) (hq' : ∀ k, k < 2 → q' k = if 8 + k = i then some (b 0) else q k) : CHx V3 (upW wd i (b, wS0)) f' q' hN hC := by
  obtain ⟨⟨c1, c2, c3⟩, c4, c5, ⟨c6, c7⟩, c8⟩ := c
  have hk : ∀ k, k ≠ r → eNth V3 k = eNth V2 k := fun k h => hs.2 k (ninL_iff (fun x hx => by have := List.mem_singleton.mp hx; omega))
  have hwf : ∀ {b' : Nat → Nat} {S' : wS}, winAt V2 b' S' → (∀ j, j < 20 → 82 ≤ b' j) → winAt V3 b' S' := fun h h2 => wat_fr h (fun j hj => hk _ (by have := h2 j hj; omega))
  refine ⟨⟨(hk 66 (by omega)).trans ((hf 66 (by omega)).trans c1), hq.1, hq.2⟩, fun k hk => ?_, fun k hk => ?_, ⟨fun k b' S' hk' e => ?_, fun k l b' S' b2 S2 h1 h2 h3 e1 e2 => ?_⟩, by rw [hs.1]; omega⟩
  · rw [hf' k hk]
    by_cases h : k = i
    · rw [if_pos h, h, upW_at]; rfl
    · rw [if_neg h, upW_ne h, c4 k hk]
  · rw [hq' k hk]
    by_cases h : 8 + k = i
    · rw [if_pos h, h, upW_at]; rfl
    · rw [if_neg h, upW_ne h, c5 k hk]
  · by_cases h : k = i
    · rw [h, upW_at] at e
      cases e
      exact ⟨hj, fun j hj => by have := hg j hj; omega, hwf hb (fun j hj => by have := hg j hj; omega)⟩
    · rw [upW_ne h] at e
      obtain ⟨x1, x2, x3⟩ := c6 k b' S' hk' e
      exact ⟨x1, x2, hwf (wat_fr x3 (fun j hj => hf _ (winAt_lt x3 hj))) x2⟩
  · by_cases h : k = i
    · rw [h, upW_at] at e1
      cases e1
      have h4 : l ≠ i := fun e => h3 (h.trans e.symm)
      rw [upW_ne h4] at e2
      obtain ⟨x1, x2, x3⟩ := c6 l b2 S2 h2 e2
      intro x y hx hy e
      have := hg x hx
      have := winAt_lt x3 hy
      omega
    · rw [upW_ne h] at e1
      obtain ⟨x1, x2, x3⟩ := c6 k b' S' h1 e1
      by_cases h4 : l = i
      · rw [h4, upW_at] at e2
        cases e2
        intro x y hx hy e
        have := hg y hy
        have := winAt_lt x3 hx
        omega
      · rw [upW_ne h4] at e2
        exact c7 k l b' S' b2 S2 h1 h2 h3 e1 e2
theorem hs_push {wd : wdT} {nx nx' hn : Nat} {h : Nat → eRow} {b : Nat → Nat} {T : wS} {a : eRow} (c : hsC wd nx hn h) (hnx : nx < 8) (h8 : hn ≤ 8) (hx : nx' = (nx + 1) % 8) (ha : wA T a) (ho : okR a) : hsC (upW wd nx (b, T)) nx' (min (hn + 1) 8) (fun j => if j = 0 then a else h (j - 1)) := fun j hj => by
  by_cases h0 : j = 0
  · subst h0
    refine ⟨b, T, ?_, ?_⟩
    · rw [show (nx' + 7 - 0) % 8 = nx by omega, upW_at]
    · dsimp only; rw [if_pos rfl]; exact ⟨ha, ho⟩
  · obtain ⟨b', T', e1, e2⟩ := c (j - 1) (by omega)
    refine ⟨b', T', ?_, ?_⟩
    · rw [show (nx' + 7 - j) % 8 = (nx + 7 - (j - 1)) % 8 by omega, upW_ne (by omega)]
      exact e1
    · dsimp only; rw [if_neg h0]; exact e2
theorem sv_ring {wd : wdT} {s : Nat → Option eRow} {i : Nat} {z : (Nat → Nat) × wS} (c : svC wd s) (hi : i < 8) : svC (upW wd i z) s := fun k hk => by
  have := c k hk
  cases hx : s k with
  | none => rw [hx] at this; dsimp only; rw [upW_ne (by omega)]; exact this
  | some r => rw [hx] at this; dsimp only; rw [upW_ne (by omega)]; exact this
theorem sv_put {wd : wdT} {s : Nat → Option eRow} {i : Nat} {b : Nat → Nat} {T : wS} {a : eRow} (c : svC wd s) (ha : wA T a) (ho : okR a) : svC (upW wd (8 + i) (b, T)) (fun k => if k = i then some a else s k) := fun k hk => by
  by_cases h : k = i
  · subst h
    have e : (fun j => if j = k then some a else s j) k = some a := if_pos rfl
    rw [e]
    exact ⟨b, T, upW_at, ha, ho⟩
  · have e : (fun j => if j = i then some a else s j) k = s k := if_neg h
    rw [e]
    have := c k hk
    cases hx : s k with
    | none => rw [hx] at this; dsimp only; rw [upW_ne (by omega)]; exact this
    | some r => rw [hx] at this; dsimp only; rw [upW_ne (by omega)]; exact this
theorem hs_sv {wd : wdT} {nx hn i : Nat} {h : Nat → eRow} {z : (Nat → Nat) × wS} (c : hsC wd nx hn h) : hsC (upW wd (8 + i) z) nx hn h := fun j hj => by
  obtain ⟨b, T, e1, e2⟩ := c j hj
  exact ⟨b, T, by rw [upW_ne (by omega)]; exact e1, e2⟩
theorem hs_pop {wd : wdT} {nx nx' hn : Nat} {h : Nat → eRow} (c : hsC wd nx hn h) (hnx : nx < 8) (h8 : hn ≤ 8) (h0 : hn ≠ 0) (hx : nx' = (nx + 7) % 8) : hsC wd nx' (hn - 1) (fun j => h (j + 1)) := fun j hj => by
  obtain ⟨b, T, e1, e2⟩ := c (j + 1) (by omega)
  exact ⟨b, T, by rw [show (nx' + 7 - j) % 8 = (nx + 7 - (j + 1)) % 8 by omega]; exact e1, e2⟩
