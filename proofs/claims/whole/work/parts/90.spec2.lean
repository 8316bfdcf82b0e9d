/-! What the statements say, as functions of the text: an error is inl (its code, its place). -/
abbrev zR (β : Type) : Type := (Nat × Nat) ⊕ β
/-- a number from lo to below hi; otherwise the code er -/
def nuS (B : Nat → Nat) (n e lo hi er : Nat) : zR (Nat × Nat) := if tkK B n e = 2 then (if lo ≤ tkC B n e ∧ tkC B n e < hi then .inr (tkC B n e, tkE B n e) else .inl (er, tkS B n e)) else .inl (1, tkS B n e)
/-- the semicolon -/
def smS (B : Nat → Nat) (n e : Nat) : zR Nat := if tkK B n e = 3 ∧ B (tkS B n e) = 59 then .inr (tkE B n e) else .inl (1, tkS B n e)
def hvG (a : eRow) : Bool := anyN (fun e => decide (a (52 + e) ≠ 0)) 36
def celS (B : Nat → Nat) (n : Nat) (a : eRow) (e : Nat) : zR ((Nat × Nat) × Nat) := match nuS B n e 0 (a 0) 2 with
  | .inl x => .inl x
  | .inr (x, e1) => match nuS B n e1 0 (a 1) 2 with
    | .inl z => .inl z
    | .inr (y, e2) => if a (16 + (6 * y + x)) = 0 then .inr ((x, y), e2) else .inl (3, tkS B n e1)
def blkS (B : Nat → Nat) (n : Nat) (a : eRow) (s e : Nat) : zR ((Nat × Nat) × Nat) := if 0 < a 2 ∨ hvG a = true then .inl (6, s) else celS B n a e
/-- the word that a text tells, -1 if there is none -/
def fwS (a : eRow) (B : Nat → Nat) (S L : Nat) : Int := fnd (fun k => decide (wl a k = L) && allN (fun p => decide (B (S + p) = 97 + lt a k p)) L) (a 2) 0
def wrdS (B : Nat → Nat) (n : Nat) (a : eRow) (s e : Nat) : zR Nat := if 30 ≤ a 2 then .inl (5, s) else if tkK B n e = 1 then (if 2 ≤ tkE B n e - tkS B n e ∧ tkE B n e - tkS B n e ≤ 6 then (if fwS a B (tkS B n e) (tkE B n e - tkS B n e) = -1 then .inr (tkE B n e) else .inl (3, tkS B n e)) else .inl (2, tkS B n e)) else .inl (1, tkS B n e)
def letS (B : Nat → Nat) (n : Nat) (a : eRow) (e : Nat) : zR ((Nat × Nat) × (Nat × Nat)) := match celS B n a e with
  | .inl x => .inl x
  | .inr (c, e1) => if tkK B n e1 = 1 ∧ tkE B n e1 - tkS B n e1 = 1 then .inr (c, (B (tkS B n e1), tkE B n e1)) else .inl (1, tkS B n e1)
def gueS (B : Nat → Nat) (n : Nat) (a : eRow) (e : Nat) : zR ((Nat × Nat) × Nat) := match nuS B n e 0 (a 3) 4 with
  | .inl x => .inl x
  | .inr (k, e1) => if tkK B n e1 = 1 then (if fwS a B (tkS B n e1) (tkE B n e1 - tkS B n e1) = -1 then .inl (4, tkS B n e1) else (if rfs (a 4) ((op a k).testBit (fwS a B (tkS B n e1) (tkE B n e1 - tkS B n e1)).toNat) (decide (pc 30 (op a k) = 1)) = 0 then .inr ((k, (fwS a B (tkS B n e1) (tkE B n e1 - tkS B n e1)).toNat), tkE B n e1) else .inl (6, tkS B n e1))) else .inl (1, tkS B n e1)
def bacS (a : eRow) (s e : Nat) : zR Nat := if 0 < a 5 then .inr e else .inl (6, s)
/-- the end of a statement -/
def finS (B : Nat → Nat) (n : Nat) : zR (eRow × Nat) → zR (eRow × Nat)
  | .inl x => .inl x
  | .inr (a, e) => match smS B n e with
    | .inl x => .inl x
    | .inr e2 => .inr (a, e2)
/-- the statement whose first word is over: s its place, e its end, k its kind -/
def staS (B : Nat → Nat) (n : Nat) (a : eRow) (s e : Nat) : Nat → zR (eRow × Nat)
  | 1 => finS B n (match blkS B n a s e with
    | .inl x => .inl x
    | .inr ((x, y), e1) => .inr (bkA a (6 * y + x), e1))
  | 2 => finS B n (match wrdS B n a s e with
    | .inl x => .inl x
    | .inr e1 => .inr (adA a (cdF B (tkS B n e) (tkE B n e - tkS B n e)) (tkE B n e - tkS B n e), e1))
  | 3 => finS B n (match letS B n a e with
    | .inl x => .inl x
    | .inr ((x, y), (v, e1)) => .inr (lvA a (6 * y + x) v, e1))
  | 4 => finS B n (match gueS B n a e with
    | .inl x => .inl x
    | .inr ((k, w), e1) => .inr (gsA a k w, e1))
  | 5 => finS B n (match bacS a s e with
    | .inl x => .inl x
    | .inr e1 => .inr (tbA a, e1))
  | 6 => finS B n (match nuS B n e 0 201 2 with
    | .inl x => .inl x
    | .inr (v, e1) => .inr (sv v a, e1))
  | _ => .inl (1, s)
/-- the kind of a statement by its first word -/
def kwK (B : Nat → Nat) (K S E : Nat) : Nat := bif isB B K S E 1 then 1 else bif isB B K S E 2 then 2 else bif isB B K S E 3 then 3 else bif isB B K S E 4 then 4 else bif isB B K S E 5 then 5 else bif isB B K S E 6 then 6 else 0
def kwS (B : Nat → Nat) (n e : Nat) : Nat := kwK B (tkK B n e) (tkS B n e) (tkE B n e)
/-- the statements from e on: the error's code and place, if there is one, and what has been made -/
def runS (B : Nat → Nat) (n : Nat) : Nat → eRow → Nat → Option (Nat × Nat) × eRow
  | 0, a, _ => (none, a)
  | d + 1, a, e => if tkK B n e = 0 then (none, a) else match staS B n a (tkS B n e) (tkE B n e) (kwS B n e) with
    | .inl x => (some x, a)
    | .inr (a', e') => runS B n d a' e'
/-- the statement grid -/
def griS (B : Nat → Nat) (n : Nat) : zR ((Nat × Nat) × Nat) := if isB B (tkK B n 0) (tkS B n 0) (tkE B n 0) 0 then (match nuS B n (tkE B n 0) 2 7 2 with
  | .inl x => .inl x
  | .inr (w, e1) => match nuS B n e1 2 7 2 with
    | .inl x => .inl x
    | .inr (h, e2) => match smS B n e2 with
      | .inl x => .inl x
      | .inr e3 => .inr ((w, h), e3)) else .inl (1, tkS B n 0)
/-- the whole text -/
def txS (B : Nat → Nat) (n : Nat) : zR (Option (Nat × Nat) × eRow) := match griS B n with
  | .inl z => .inl z
  | .inr ((w, h), e) => .inr (runS B n 600 (stA w h) e)
theorem nuS_b {B : Nat → Nat} {n e lo hi er v e1 : Nat} (h : nuS B n e lo hi er = .inr (v, e1)) : tkK B n e = 2 ∧ lo ≤ v ∧ v < hi ∧ e1 = tkE B n e ∧ v = tkC B n e := by
  unfold nuS at h
  split at h
  · split at h
    · cases h; rename_i h1 h2; exact ⟨h1, h2.1, h2.2, rfl, rfl⟩
    · cases h
  · cases h
theorem tkE_le {B : Nat → Nat} {n e : Nat} (h : e ≤ n) : tkE B n e ≤ n := (tk_le (B := B) h).2.2.1
theorem nuS_e {B : Nat → Nat} {n e lo hi er v e1 : Nat} (he : e ≤ n) (h : nuS B n e lo hi er = .inr (v, e1)) : e1 ≤ n := by rw [(nuS_b h).2.2.2.1]; exact tkE_le he
theorem smS_e {B : Nat → Nat} {n e e1 : Nat} (he : e ≤ n) (h : smS B n e = .inr e1) : e < e1 ∧ e1 ≤ n := by
  unfold smS at h
  split at h
  · cases h
    rename_i h1
    obtain ⟨t1, t2, t3, t4, t5⟩ := tk_le (B := B) he
    obtain ⟨t6, _⟩ := t5 (by omega)
    omega
  · cases h
/-! The parser reads: what is kept, what comes out. -/
def kQ (P P' : Nat → Int) : Prop := ∀ j, 6 < j → P' j = P j
/-- an error: its code and its place; otherwise the error as it was, and the end -/
def poS (P P' : Nat → Int) : zR Nat → Prop
  | .inl (k, s) => P' 3 = (k : Int) ∧ P' 4 = (s : Int)
  | .inr e => P' 3 = P 3 ∧ P' 5 = (e : Int)
def nxS {β : Type} : zR (β × Nat) → zR Nat
  | .inl x => .inl x
  | .inr (_, e) => .inr e
def vlS : zR (Nat × Nat) → Int
  | .inl _ => -1
  | .inr (v, _) => (v : Int)
def okS2 {β : Type} : zR β → Bool
  | .inl _ => false
  | .inr _ => true
set_option maxRecDepth 100000
theorem c_num {P bY : Nat → Int} {B : Nat → Nat} {n e lo hi er : Nat} {ln x1 x2 x3 : Int} {c : Nat × Nat} (hln : ln = (n : Int)) (hn : n ≤ 600) (hby : ∀ i, i < n → bY i = (B i : Int) ∧ B i < 256) (he : P 5 = (e : Int)) (hen : e ≤ n) (h1 : x1 = (lo : Int)) (h2 : x2 + 1 = (hi : Int)) (h3 : x3 = (er : Int)) (hlo : lo ≤ 1000) (hhi : hi ≤ 1000) : ∃ (P' : Nat → Int) (v : Int), v = vlS (nuS B n e lo hi er) ∧ P' 4 = ((tkS B n e : Nat) : Int) ∧ kQ P P' ∧ poS P P' (nxS (nuS B n e lo hi er)) ∧ ev m_P_readNumber 0 [some (eR 0), some (eI x1), some (eI x2), some (eI x3)] [] ([pO P, eO 2 [eR 2, eI ln, eSt 20], eA 0 600 bY], c) = some (.inl (some (eI v)), ([pO P', eO 2 [eR 2, eI ln, eSt 20], eA 0 600 bY], c)) := by
  obtain ⟨Q, ⟨q4, q5, q6, q7⟩, q8⟩ := c_nextToken (c := c) hln hn hby he hen
  obtain ⟨t1, t2, t3, t4, t5⟩ := tk_le (B := B) hen
  have hdig := tk_dig (B := B) hen
  have hCe : tkC B n e = caN B (tkE B n e - tkS B n e) (tkS B n e) 0 := rfl
  have hCl : tkC B n e ≤ 1000 := caN_le (by omega)
  unfold nuS
  generalize tkK B n e = K at q6 t4 t5 hdig ⊢
  generalize tkS B n e = S at q4 t1 t2 t5 hdig hCe ⊢
  generalize tkE B n e = E at q5 t2 t3 t5 hdig hCe ⊢
  generalize tkC B n e = C at hCe hCl ⊢
  have q3 : Q 3 = P 3 := q7 3 (by omega) (by omega) (by omega)
  have q9 : kQ P Q := fun j hj => q7 j (by omega) (by omega) (by omega)
  have q10 : ∀ z, kQ P (eUp Q 3 z) := fun z j hj => by rw [eUp_ne (by omega)]; exact q9 j hj
  by_cases hK : K = 2
  · rw [if_pos hK]
    have htail := fun r y0 => c_numL (P := Q) (x1 := x1) (x2 := x2) (x3 := x3) (c := c) (ln := ln) (r := r) q5 hn t3 hby (hdig hK) (E - S) S (by omega) (Nat.le_refl _) 0 0 y0 rfl (by omega)
    by_cases hg : lo ≤ C ∧ C < hi
    · rw [if_pos hg]
      refine ⟨Q, (C : Int), rfl, q4, q9, ⟨q3, q5⟩, ?_⟩
      have hend := htail (some (.inl (some (eI (C : Int))), ([pO Q, eO 2 [eR 2, eI ln, eSt 20], eA 0 600 bY], c))) (Q 4) (by omega) (fun v' y' hv' => by
        rw [← hCe] at hv'
        refine xLtF (N := 3) (x := v') (y := x1) (A := ev m_P_readNumber 80 [some (eR 0), some (eI x1), some (eI x2), some (eI x3), some (eI v'), some (eI y')] [] ([pO Q, eO 2 [eR 2, eI ln, eSt 20], eA 0 600 bY], c)) (B := ev m_P_readNumber 74 [some (eR 0), some (eI x1), some (eI x2), some (eI x3), some (eI v'), some (eI y')] [] ([pO Q, eO 2 [eR 2, eI ln, eSt 20], eA 0 600 bY], c)) rfl (wr_id (by omega) (by omega)) (wr_id (by omega) (by omega)) (by omega) ?_
        refine xLtF (N := 3) (x := x2) (y := v') (A := ev m_P_readNumber 80 [some (eR 0), some (eI x1), some (eI x2), some (eI x3), some (eI v'), some (eI y')] [] ([pO Q, eO 2 [eR 2, eI ln, eSt 20], eA 0 600 bY], c)) (B := ev m_P_readNumber 88 [some (eR 0), some (eI x1), some (eI x2), some (eI x3), some (eI v'), some (eI y')] [] ([pO Q, eO 2 [eR 2, eI ln, eSt 20], eA 0 600 bY], c)) rfl (wr_id (by omega) (by omega)) (wr_id (by omega) (by omega)) (by omega) ?_
        refine xSeg (N := 2) (r := some (.inl (some (eI v')), ([pO Q, eO 2 [eR 2, eI ln, eSt 20], eA 0 600 bY], c))) rfl ?_
        exact lf hv'
        )
      refine xCallWV (N := 2) (M2 := m_P_readNumber) (pc2 := 1) (ls2 := [some (eR 0), some (eI x1), some (eI x2), some (eI x3)]) (st2 := []) (y := m_P_nextToken) (as := [some (eR 0)]) (w2 := ([pO P, eO 2 [eR 2, eI ln, eSt 20], eA 0 600 bY], c)) rfl q8 ?_
      refine xEqT (N := 4) (x := Q 6) (y := 2) (A := ev m_P_readNumber 20 [some (eR 0), some (eI x1), some (eI x2), some (eI x3)] [] ([pO Q, eO 2 [eR 2, eI ln, eSt 20], eA 0 600 bY], c)) (B := ev m_P_readNumber 12 [some (eR 0), some (eI x1), some (eI x2), some (eI x3)] [] ([pO Q, eO 2 [eR 2, eI ln, eSt 20], eA 0 600 bY], c)) rfl (wr_id (by omega) (by omega)) (show wr 2 = 2 by decide) (by omega) ?_
      refine xSeg (N := 5) (r := ev m_P_readNumber 29 [some (eR 0), some (eI x1), some (eI x2), some (eI x3), some (eI 0), some (eI (Q 4))] [] ([pO Q, eO 2 [eR 2, eI ln, eSt 20], eA 0 600 bY], c)) rfl ?_
      exact hend
    · rw [if_neg hg]
      refine ⟨eUp Q 3 x3, -1, rfl, by rw [eUp_ne (by omega)]; exact q4, q10 _, ⟨by rw [eUp_at]; exact h3, by rw [eUp_ne (by omega)]; exact q4⟩, ?_⟩
      have hend := htail (some (.inl (some (eI (-1))), ([pO (eUp Q 3 x3), eO 2 [eR 2, eI ln, eSt 20], eA 0 600 bY], c))) (Q 4) (by omega) (fun v' y' hv' => by
        rw [← hCe] at hv'
        refine xLt (N := 3) (x := v') (y := x1) (A := ev m_P_readNumber 80 [some (eR 0), some (eI x1), some (eI x2), some (eI x3), some (eI v'), some (eI y')] [] ([pO Q, eO 2 [eR 2, eI ln, eSt 20], eA 0 600 bY], c)) (B := ev m_P_readNumber 74 [some (eR 0), some (eI x1), some (eI x2), some (eI x3), some (eI v'), some (eI y')] [] ([pO Q, eO 2 [eR 2, eI ln, eSt 20], eA 0 600 bY], c)) rfl (wr_id (by omega) (by omega)) (wr_id (by omega) (by omega)) (fun h71 => ?_) (fun h71 => ?_)
        · refine xCallW (N := 3) (M2 := m_P_readNumber) (pc2 := 82) (ls2 := [some (eR 0), some (eI x1), some (eI x2), some (eI x3), some (eI v'), some (eI y')]) (st2 := []) (y := m_P_fail) (as := [some (eR 0), some (eI x3)]) (w2 := ([pO Q, eO 2 [eR 2, eI ln, eSt 20], eA 0 600 bY], c)) rfl c_fail ?_
          refine xSeg (N := 3) (r := some (.inl (some (eI (-1))), ([pO (eUp Q 3 x3), eO 2 [eR 2, eI ln, eSt 20], eA 0 600 bY], c))) rfl ?_
          first | rfl | omega
        · refine xLt (N := 3) (x := x2) (y := v') (A := ev m_P_readNumber 80 [some (eR 0), some (eI x1), some (eI x2), some (eI x3), some (eI v'), some (eI y')] [] ([pO Q, eO 2 [eR 2, eI ln, eSt 20], eA 0 600 bY], c)) (B := ev m_P_readNumber 88 [some (eR 0), some (eI x1), some (eI x2), some (eI x3), some (eI v'), some (eI y')] [] ([pO Q, eO 2 [eR 2, eI ln, eSt 20], eA 0 600 bY], c)) rfl (wr_id (by omega) (by omega)) (wr_id (by omega) (by omega)) (fun h77 => ?_) (fun h77 => ?_)
          · refine xCallW (N := 3) (M2 := m_P_readNumber) (pc2 := 82) (ls2 := [some (eR 0), some (eI x1), some (eI x2), some (eI x3), some (eI v'), some (eI y')]) (st2 := []) (y := m_P_fail) (as := [some (eR 0), some (eI x3)]) (w2 := ([pO Q, eO 2 [eR 2, eI ln, eSt 20], eA 0 600 bY], c)) rfl c_fail ?_
            refine xSeg (N := 3) (r := some (.inl (some (eI (-1))), ([pO (eUp Q 3 x3), eO 2 [eR 2, eI ln, eSt 20], eA 0 600 bY], c))) rfl ?_
            first | rfl | omega
          · refine xSeg (N := 2) (r := some (.inl (some (eI v')), ([pO Q, eO 2 [eR 2, eI ln, eSt 20], eA 0 600 bY], c))) rfl ?_
            first | rfl | omega
        )
      refine xCallWV (N := 2) (M2 := m_P_readNumber) (pc2 := 1) (ls2 := [some (eR 0), some (eI x1), some (eI x2), some (eI x3)]) (st2 := []) (y := m_P_nextToken) (as := [some (eR 0)]) (w2 := ([pO P, eO 2 [eR 2, eI ln, eSt 20], eA 0 600 bY], c)) rfl q8 ?_
      refine xEqT (N := 4) (x := Q 6) (y := 2) (A := ev m_P_readNumber 20 [some (eR 0), some (eI x1), some (eI x2), some (eI x3)] [] ([pO Q, eO 2 [eR 2, eI ln, eSt 20], eA 0 600 bY], c)) (B := ev m_P_readNumber 12 [some (eR 0), some (eI x1), some (eI x2), some (eI x3)] [] ([pO Q, eO 2 [eR 2, eI ln, eSt 20], eA 0 600 bY], c)) rfl (wr_id (by omega) (by omega)) (show wr 2 = 2 by decide) (by omega) ?_
      refine xSeg (N := 5) (r := ev m_P_readNumber 29 [some (eR 0), some (eI x1), some (eI x2), some (eI x3), some (eI 0), some (eI (Q 4))] [] ([pO Q, eO 2 [eR 2, eI ln, eSt 20], eA 0 600 bY], c)) rfl ?_
      exact hend
  · rw [if_neg hK]
    refine ⟨eUp Q 3 1, -1, rfl, by rw [eUp_ne (by omega)]; exact q4, q10 _, ⟨by rw [eUp_at]; rfl, by rw [eUp_ne (by omega)]; exact q4⟩, ?_⟩
    refine xCallWV (N := 2) (M2 := m_P_readNumber) (pc2 := 1) (ls2 := [some (eR 0), some (eI x1), some (eI x2), some (eI x3)]) (st2 := []) (y := m_P_nextToken) (as := [some (eR 0)]) (w2 := ([pO P, eO 2 [eR 2, eI ln, eSt 20], eA 0 600 bY], c)) rfl q8 ?_
    refine xEqF (N := 4) (x := Q 6) (y := 2) (A := ev m_P_readNumber 20 [some (eR 0), some (eI x1), some (eI x2), some (eI x3)] [] ([pO Q, eO 2 [eR 2, eI ln, eSt 20], eA 0 600 bY], c)) (B := ev m_P_readNumber 12 [some (eR 0), some (eI x1), some (eI x2), some (eI x3)] [] ([pO Q, eO 2 [eR 2, eI ln, eSt 20], eA 0 600 bY], c)) rfl (wr_id (by omega) (by omega)) (show wr 2 = 2 by decide) (by omega) ?_
    refine xCallW (N := 3) (M2 := m_P_readNumber) (pc2 := 14) (ls2 := [some (eR 0), some (eI x1), some (eI x2), some (eI x3)]) (st2 := []) (y := m_P_fail) (as := [some (eR 0), some (eI 1)]) (w2 := ([pO Q, eO 2 [eR 2, eI ln, eSt 20], eA 0 600 bY], c)) rfl c_fail ?_
    refine xSeg (N := 3) (r := some (.inl (some (eI (-1))), ([pO (eUp Q 3 1), eO 2 [eR 2, eI ln, eSt 20], eA 0 600 bY], c))) rfl ?_
    rfl
theorem c_sem {P bY : Nat → Int} {B : Nat → Nat} {n e : Nat} {ln : Int} {c : Nat × Nat} (hln : ln = (n : Int)) (hn : n ≤ 600) (hby : ∀ i, i < n → bY i = (B i : Int) ∧ B i < 256) (he : P 5 = (e : Int)) (hen : e ≤ n) : ∃ P' : Nat → Int, kQ P P' ∧ poS P P' (smS B n e) ∧ ev m_P_readSemicolon 0 [some (eR 0)] [] ([pO P, eO 2 [eR 2, eI ln, eSt 20], eA 0 600 bY], c) = some (.inl (some (eI (bI (okS2 (smS B n e))))), ([pO P', eO 2 [eR 2, eI ln, eSt 20], eA 0 600 bY], c)) := by
  obtain ⟨P', ⟨p4, p5, p6, p3, p7⟩, p8⟩ := c_readSemicolon (c := c) hln hn hby he hen
  refine ⟨P', p7, ?_⟩
  unfold smS
  by_cases hg : tkK B n e = 3 ∧ B (tkS B n e) = 59
  · rw [if_pos hg] at p3 ⊢
    rw [decide_eq_true hg] at p8
    exact ⟨⟨p3, p5⟩, p8⟩
  · rw [if_neg hg] at p3 ⊢
    rw [decide_eq_false hg] at p8
    exact ⟨⟨p3, p4⟩, p8⟩
