/-! The model's reader goes on, or stays where the error is. -/
def adv (B : Nat → Nat) (n : Nat) (P P' : Nat → Int) : Prop := ∃ e : Nat, P 13 = (e : Int) ∧ e ≤ n ∧ (P' 14 = ((tkS B n e : Nat) : Int) ∧ P' 13 = ((tkE B n e : Nat) : Int) ∧ P' 15 = ((tkT (tkK B n e) : Nat) : Int) ∧ P' 16 = ((tkV B n e : Nat) : Int) ∧ P' 17 = ((tkL B n e : Nat) : Int) ∧ kM P P')
def nxt (B : Nat → Nat) (n : Nat) (P P' : Nat → Int) : Prop := (P 18 = 0 → adv B n P P') ∧ (P 18 ≠ 0 → P' = P)
theorem ckM_ne {P : Nat → Int} {b : Bool} {k : Int} {j : Nat} (h1 : j ≠ 18) (h2 : j ≠ 19) : ckM P b k j = P j := by
  unfold ckM
  cases (decide (P 18 = 0) && !b) with
  | true => rw [cond_true, eUp_ne h2, eUp_ne h1]
  | false => rfl
theorem ckM_18 {P : Nat → Int} {b : Bool} {k : Int} (hk : 1 ≤ k ∧ k ≤ 9) (h : 0 ≤ P 18 ∧ P 18 ≤ 9) : 0 ≤ ckM P b k 18 ∧ ckM P b k 18 ≤ 9 := by
  unfold ckM
  cases (decide (P 18 = 0) && !b) with
  | true => rw [cond_true, eUp_ne (by omega), eUp_at]; omega
  | false => exact h
theorem lkM_ne {P : Nat → Int} {l h : Int} {j : Nat} (h1 : j ≠ 18) (h2 : j ≠ 19) : lkM P l h j = P j := (ckM_ne h1 h2).trans (ckM_ne h1 h2)
theorem lkM_18 {P : Nat → Int} {l h : Int} (hp : 0 ≤ P 18 ∧ P 18 ≤ 9) : 0 ≤ lkM P l h 18 ∧ lkM P l h 18 ≤ 9 := ckM_18 (by omega) (ckM_18 (by omega) hp)
set_option maxRecDepth 100000
theorem n_nextA {P bY : Nat → Int} {B : Nat → Nat} {n e : Nat} {c : Nat × Nat} (h18 : 0 ≤ P 18 ∧ P 18 ≤ 9) (h12 : P 12 = (n : Int)) (hn : n ≤ 600) (hby : ∀ i, i < n → bY i = (B i : Int) ∧ B i < 256) (he : P 13 = (e : Int)) (hen : e ≤ n) : ∃ P' : Nat → Int, nxt B n P P' ∧ ev m_M_next 0 [some (eR 0)] [] ([mN P, eA 0 600 bY], c) = some (.inl none, ([mN P', eA 0 600 bY], c)) := by
  by_cases h0 : P 18 = 0
  · obtain ⟨P', q1, q2⟩ := n_next (c := c) h0 h12 hn hby he hen
    exact ⟨P', ⟨fun _ => ⟨e, he, hen, q1⟩, fun h => absurd h0 h⟩, q2⟩
  · exact ⟨P, ⟨fun h => absurd h h0, fun _ => rfl⟩, n_nextC h18 h0⟩
theorem n_finish {P bY : Nat → Int} {B : Nat → Nat} {n S e : Nat} {c : Nat × Nat} (h18 : 0 ≤ P 18 ∧ P 18 ≤ 9) (h12 : P 12 = (n : Int)) (hn : n ≤ 600) (hby : ∀ i, i < n → bY i = (B i : Int) ∧ B i < 256) (he : P 13 = (e : Int)) (hen : e ≤ n) (h14 : P 14 = (S : Int)) (h15 : 0 ≤ P 15 ∧ P 15 ≤ 3) (hS : P 15 = 1 → S < n) : ∃ P' : Nat → Int, nxt B n (ckM P (decide (P 15 = 1 ∧ B S = 59)) 1) P' ∧ ev m_M_finish 0 [some (eR 0)] [] ([mN P, eA 0 600 bY], c) = some (.inl none, ([mN P', eA 0 600 bY], c)) := by
  obtain ⟨P', q1, q2⟩ := n_nextA (P := ckM P (decide (P 15 = 1 ∧ B S = 59)) 1) (c := c) (e := e) (ckM_18 (by omega) h18) (by rw [ckM_ne (by omega) (by omega)]; exact h12) hn hby (by rw [ckM_ne (by omega) (by omega)]; exact he) hen
  refine ⟨P', q1, n_semi hn hby h14 h15 hS h18 ?_⟩
  generalize ckM P (decide (P 15 = 1 ∧ B S = 59)) 1 = Q at q2
  refine xCallWV (N := 2) (M2 := m_M_finish) (pc2 := 34) (ls2 := [some (eR 0)]) (st2 := []) (y := m_M_next) (as := [some (eR 0)]) (w2 := ([mN Q, eA 0 600 bY], c)) rfl q2 ?_
  refine xSeg (N := 1) (r := some (.inl none, ([mN P', eA 0 600 bY], c))) rfl ?_
  rfl
theorem n_number {P bY : Nat → Int} {B : Nat → Nat} {n e : Nat} {l h : Int} {c : Nat × Nat} (hl : 0 ≤ l ∧ l ≤ 1000) (hh : 0 ≤ h ∧ h ≤ 1000) (h18 : 0 ≤ P 18 ∧ P 18 ≤ 9) (h12 : P 12 = (n : Int)) (hn : n ≤ 600) (hby : ∀ i, i < n → bY i = (B i : Int) ∧ B i < 256) (he : P 13 = (e : Int)) (hen : e ≤ n) (h15 : 0 ≤ P 15 ∧ P 15 ≤ 3) (h16 : 0 ≤ P 16 ∧ P 16 < 1000000000) : ∃ P' : Nat → Int, nxt B n (lkM P l h) P' ∧ ev m_M_number 0 [some (eR 0), some (eI l), some (eI h)] [] ([mN P, eA 0 600 bY], c) = some (.inl (some (eI (if lkM P l h 18 = 0 then P 16 else l))), ([mN P', eA 0 600 bY], c)) := by
  obtain ⟨P', q1, q2⟩ := n_nextA (P := lkM P l h) (c := c) (e := e) (lkM_18 h18) (by rw [lkM_ne (by omega) (by omega)]; exact h12) hn hby (by rw [lkM_ne (by omega) (by omega)]; exact he) hen
  refine ⟨P', q1, ?_⟩
  have hk := n_look (bY := bY) (c := c) hl hh h15 h16 h18
  generalize lkM P l h = Q at q2 hk ⊢
  generalize (if Q 18 = 0 then P 16 else l) = z at hk ⊢
  refine xCallW (N := 4) (M2 := m_M_number) (pc2 := 3) (ls2 := [some (eR 0), some (eI l), some (eI h)]) (st2 := []) (y := m_M_look) (as := [some (eR 0), some (eI l), some (eI h)]) (w2 := ([mN P, eA 0 600 bY], c)) rfl hk ?_
  refine xCallWV (N := 3) (M2 := m_M_number) (pc2 := 8) (ls2 := [some (eR 0), some (eI l), some (eI h), some (eI z)]) (st2 := []) (y := m_M_next) (as := [some (eR 0)]) (w2 := ([mN Q, eA 0 600 bY], c)) rfl q2 ?_
  refine xSeg (N := 2) (r := some (.inl (some (eI z)), ([mN P', eA 0 600 bY], c))) rfl ?_
  first | rfl | exact lf (by omega)
