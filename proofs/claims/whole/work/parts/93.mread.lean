/-! The model's reader as a machine over its text: it stands before a token, or it has an error. -/
def mQ (P : Nat → Int) : eC := eO 7 [eSt 19, eR 1, eSt 21, eSt 22, eSt 23, eR 2, eR 3, eSt 24, eI (P 8), eI (P 9), eI (P 10), eR 4, eI (P 12), eI (P 13), eI (P 14), eI (P 15), eI (P 16), eI (P 17), eI (P 18), eI (P 19), eSt 26, eI (P 21)]
def σN (k : Nat) : eV := bif Nat.beq k 20 then eR 1 else bif Nat.beq k 24 then eR 2 else bif Nat.beq k 25 then eR 3 else bif Nat.beq k 26 then eSt 24 else bif Nat.beq k 27 then eSt 26 else eSt k
def σM (k : Nat) : eV := bif Nat.beq k 20 then eR 1 else bif Nat.beq k 25 then eR 4 else eSt k
theorem nUp {P P' g mk fr bY : Nat → Int} {y : Nat} {as as' : eL} {o o' : Option eV ⊕ Nat} {c : Nat × Nat} (h : ev y 0 as [] ([mN P, eA 0 600 bY], (0, 0)) = some (o, ([mN P', eA 0 600 bY], (0, 0)))) (ha : okLU σN 2 as = true) (has : rL σN [0, 4] as = as') (ho : rO σN [0, 4] o = o') : ev y 0 as' [] ([mQ P, eA 0 964 g, eA 0 144 mk, eA 0 24 fr, eA 0 600 bY], c) = some (o', ([mQ P', eA 0 964 g, eA 0 144 mk, eA 0 24 fr, eA 0 600 bY], c)) :=
  xAt (σ := σN) (α := [0, 4]) h rfl rfl rfl rfl rfl ha has ho rfl
theorem nRow {P g g' mk mk' fr fr' bY : Nat → Int} {y : Nat} {as as' : eL} {o o' : Option eV ⊕ Nat} {c : Nat × Nat} (h : ev y 0 as [] ([eA 0 964 g, mO P, eA 0 144 mk, eA 0 24 fr], (0, 0)) = some (o, ([eA 0 964 g', mO P, eA 0 144 mk', eA 0 24 fr'], (0, 0)))) (ha : okLU σM 4 as = true) (has : rL σM [1, 0, 2, 3] as = as') (ho : rO σM [1, 0, 2, 3] o = o') : ev y 0 as' [] ([mQ P, eA 0 964 g, eA 0 144 mk, eA 0 24 fr, eA 0 600 bY], c) = some (o', ([mQ P, eA 0 964 g', eA 0 144 mk', eA 0 24 fr', eA 0 600 bY], c)) :=
  xAt (σ := σM) (α := [1, 0, 2, 3]) h rfl rfl rfl rfl rfl ha has ho rfl
theorem nRd {P g g' mk fr bY : Nat → Int} {y : Nat} {as as' : eL} {o o' : Option eV ⊕ Nat} {c : Nat × Nat} (h : ev y 0 as [] ([eA 0 964 g], (0, 0)) = some (o, ([eA 0 964 g'], (0, 0)))) (ha : okLU eSt 1 as = true) (has : rL eSt [1] as = as') (ho : rO eSt [1] o = o') : ev y 0 as' [] ([mQ P, eA 0 964 g, eA 0 144 mk, eA 0 24 fr, eA 0 600 bY], c) = some (o', ([mQ P, eA 0 964 g', eA 0 144 mk, eA 0 24 fr, eA 0 600 bY], c)) :=
  xAt (σ := eSt) (α := [1]) h rfl rfl rfl rfl rfl ha has ho rfl
/-- the reader before the token of e -/
def mK (B : Nat → Nat) (n : Nat) (P : Nat → Int) (e : Nat) : Prop := (P 12 = (n : Int) ∧ e ≤ n) ∧ (P 14 = ((tkS B n e : Nat) : Int) ∧ P 13 = ((tkE B n e : Nat) : Int) ∧ P 15 = ((tkT (tkK B n e) : Nat) : Int) ∧ P 16 = ((tkV B n e : Nat) : Int) ∧ P 17 = ((tkL B n e : Nat) : Int))
def mS (B : Nat → Nat) (n : Nat) (P : Nat → Int) : zR Nat → Prop
  | .inl (k, s) => (∃ e, mK B n P e) ∧ (1 ≤ k ∧ k ≤ 9) ∧ P 18 = (k : Int) ∧ P 19 = (s : Int)
  | .inr e => mK B n P e ∧ P 18 = 0 ∧ P 19 = -1
/-- what the reader leaves alone -/
def mU (P P' : Nat → Int) : Prop := ∀ j, (j < 13 ∨ 19 < j) → P' j = P j
theorem mU_rf {P : Nat → Int} : mU P P := fun _ _ => rfl
theorem mU_tr {P Q R : Nat → Int} (h : mU P Q) (h2 : mU Q R) : mU P R := fun j hj => (h2 j hj).trans (h j hj)
theorem mS_at {B : Nat → Nat} {n : Nat} {P : Nat → Int} : ∀ {r : zR Nat}, mS B n P r → (∃ e, mK B n P e) ∧ 0 ≤ P 18 ∧ P 18 ≤ 9
  | .inl (k, s), h => ⟨h.1, by have := h.2.1; have := h.2.2.1; omega⟩
  | .inr e, h => ⟨⟨e, h.1⟩, by have := h.2.1; omega⟩
theorem mS_L {B : Nat → Nat} {n : Nat} {P : Nat → Int} {z : Nat × Nat} (h : mS B n P (.inl z)) : P 18 ≠ 0 := by
  obtain ⟨k, s⟩ := z
  have := h.2.1
  have := h.2.2.1
  omega
def nxR (B : Nat → Nat) (n : Nat) : zR Nat → zR Nat
  | .inl z => .inl z
  | .inr e => .inr (tkE B n e)
def ckR (B : Nat → Nat) (n : Nat) (b : Bool) (k : Nat) : zR Nat → zR Nat
  | .inl z => .inl z
  | .inr e => bif b then .inr e else .inl (k, tkS B n e)
def lkR (B : Nat → Nat) (n lo hi : Nat) : zR Nat → zR Nat
  | .inl z => .inl z
  | .inr e => if tkK B n e = 2 then (if lo ≤ tkC B n e ∧ tkC B n e < hi then .inr e else .inl (2, tkS B n e)) else .inl (1, tkS B n e)
def fiR (B : Nat → Nat) (n : Nat) : zR Nat → zR Nat
  | .inl z => .inl z
  | .inr e => if tkK B n e = 3 ∧ B (tkS B n e) = 59 then .inr e else .inl (1, tkS B n e)
theorem mK_u {B : Nat → Nat} {n e : Nat} {P P' : Nat → Int} (h : ∀ j, j < 18 → P' j = P j) (hk : mK B n P e) : mK B n P' e := by
  unfold mK at hk ⊢
  rw [h 12 (by omega), h 13 (by omega), h 14 (by omega), h 15 (by omega), h 16 (by omega), h 17 (by omega)]
  exact hk
theorem mS_ck {B : Nat → Nat} {n k : Nat} {P : Nat → Int} {b : Bool} {z : Int} (hk : 1 ≤ k ∧ k ≤ 9) (hz : z = (k : Int)) : ∀ {r : zR Nat}, mS B n P r → mS B n (ckM P b z) (ckR B n b k r) ∧ mU P (ckM P b z)
  | .inl (k9, s), h => by
    rw [ckM_C (mS_L h)]
    exact ⟨h, mU_rf⟩
  | .inr e, h => by
    cases b with
    | true => rw [ckM_T]; exact ⟨h, mU_rf⟩
    | false =>
      rw [ckM_F h.2.1]
      refine ⟨⟨⟨e, mK_u (fun j hj => by rw [eUp_ne (by omega), eUp_ne (by omega)]) h.1⟩, hk, by rw [eUp_ne (by omega), eUp_at]; exact hz, by rw [eUp_at]; exact h.1.2.1⟩, fun j hj => by rw [eUp_ne (by omega), eUp_ne (by omega)]⟩
theorem tkT_le {k : Nat} : tkT k ≤ 3 := by unfold tkT; split <;> (try split) <;> (try split) <;> omega
theorem tkT_2 {k : Nat} : tkT k = 2 ↔ k = 2 := by unfold tkT; split <;> (try split) <;> (try split) <;> omega
theorem tkT_3 {k : Nat} : tkT k = 3 ↔ k = 1 := by unfold tkT; split <;> (try split) <;> (try split) <;> omega
theorem tkT_1 {k : Nat} : tkT k = 1 ↔ k = 3 := by unfold tkT; split <;> (try split) <;> (try split) <;> omega
theorem tkT_0 {k : Nat} (h : k ≤ 3) : tkT k = 0 ↔ k = 0 := by unfold tkT; split <;> (try split) <;> (try split) <;> omega
theorem vaN_big {B : Nat → Nat} : ∀ {d i v : Nat}, v < 1000000000 → (∀ j, i ≤ j → j < i + d → B j < 256) → vaN B d i v < 1000000000
  | 0, _, _, h, _ => h
  | d + 1, i, v, h, hB => by
    have h3 := hB i (by omega) (by omega)
    unfold vaN
    split
    · rename_i hk
      have h4 := kd_2.mp hk
      refine vaN_big ?_ (fun j h1 h2 => hB j (by omega) (by omega))
      unfold stV
      split <;> omega
    · exact h
theorem tkV_lt {B : Nat → Nat} {n e : Nat} (h : e ≤ n) (hB : ∀ i, i < n → B i < 256) : tkV B n e < 1000000000 := by
  have t := tk_le (B := B) h
  unfold tkV
  split
  · exact vaN_big (by omega) (fun j h1 h2 => hB j (by omega))
  · omega
section
variable {P g mk fr bY : Nat → Int} {B : Nat → Nat} {n : Nat} {c : Nat × Nat}
set_option maxRecDepth 100000
theorem m_chk {r : zR Nat} {b : Bool} {k : Nat} {x z : Int} (h : mS B n P r) (hx : x = bI b) (hz : z = (k : Int)) (hk : 1 ≤ k ∧ k ≤ 9) : ∃ (P' : Nat → Int) (v : Int), mS B n P' (ckR B n b k r) ∧ mU P P' ∧ ev m_M_check 0 [some (eR 0), some (eI x), some (eI z)] [] ([mQ P, eA 0 964 g, eA 0 144 mk, eA 0 24 fr, eA 0 600 bY], c) = some (.inl (some (eI v)), ([mQ P', eA 0 964 g, eA 0 144 mk, eA 0 24 fr, eA 0 600 bY], c)) := by
  obtain ⟨h1, h2⟩ := mS_ck (b := b) hk hz h
  exact ⟨_, _, h1, h2, nUp (n_check hx (by omega) (mS_at h).2) rfl rfl rfl⟩
theorem m_nx {r : zR Nat} (h : mS B n P r) (hn : n ≤ 600) (hby : ∀ i, i < n → bY i = (B i : Int) ∧ B i < 256) : ∃ P' : Nat → Int, mS B n P' (nxR B n r) ∧ mU P P' ∧ ev m_M_next 0 [some (eR 0)] [] ([mQ P, eA 0 964 g, eA 0 144 mk, eA 0 24 fr, eA 0 600 bY], c) = some (.inl none, ([mQ P', eA 0 964 g, eA 0 144 mk, eA 0 24 fr, eA 0 600 bY], c)) := by
  cases r with
  | inl z => exact ⟨P, h, mU_rf, nUp (n_nextC (mS_at h).2 (mS_L h)) rfl rfl rfl⟩
  | inr e =>
    obtain ⟨P', ⟨q1, q2, q3, q4, q5, q6⟩, q7⟩ := n_next (c := (0, 0)) h.2.1 h.1.1.1 hn hby h.1.2.2.1 (tkE_le h.1.1.2)
    refine ⟨P', ⟨⟨⟨(q6 12 (by omega)).trans h.1.1.1, tkE_le h.1.1.2⟩, q1, q2, q3, q4, q5⟩, (q6 18 (by omega)).trans h.2.1, (q6 19 (by omega)).trans h.2.2⟩, fun j hj => q6 j (by omega), nUp q7 rfl rfl rfl⟩
theorem m_lk {r : zR Nat} {lo hi : Nat} {l h9 : Int} (h : mS B n P r) (hn : n ≤ 600) (hby : ∀ i, i < n → bY i = (B i : Int) ∧ B i < 256) (hl : l = (lo : Int)) (hh : h9 + 1 = (hi : Int)) (hlo : lo ≤ 1000) (hhi : 1 ≤ hi ∧ hi ≤ 1000) : ∃ (P' : Nat → Int) (v : Int), mS B n P' (lkR B n lo hi r) ∧ mU P P' ∧ (∀ e, lkR B n lo hi r = .inr e → r = .inr e ∧ v = ((tkC B n e : Nat) : Int)) ∧ ((∃ z, lkR B n lo hi r = .inl z) → v = l) ∧ ev m_M_look 0 [some (eR 0), some (eI l), some (eI h9)] [] ([mQ P, eA 0 964 g, eA 0 144 mk, eA 0 24 fr, eA 0 600 bY], c) = some (.inl (some (eI v)), ([mQ P', eA 0 964 g, eA 0 144 mk, eA 0 24 fr, eA 0 600 bY], c)) := by
  obtain ⟨⟨e0, hk0⟩, h18⟩ := mS_at h
  have h16 := tkV_lt (B := B) hk0.1.2 (fun i hi => (hby i hi).2)
  have hlk := n_look (P := P) (bY := bY) (c := (0, 0)) (l := l) (h := h9) (by omega) (by omega) (by have := tkT_le (k := tkK B n e0); have := hk0.2.2.2.1; omega) (by have := hk0.2.2.2.2.1; omega) h18
  cases r with
  | inl z =>
    have e1 : lkM P l h9 = P := by unfold lkM; rw [ckM_C (mS_L h), ckM_C (mS_L h)]
    rw [e1, if_neg (mS_L h)] at hlk
    exact ⟨P, l, h, mU_rf, fun e he => by (cases he), fun _ => rfl, nUp hlk rfl rfl rfl⟩
  | inr e =>
    obtain ⟨s1, s2⟩ := mS_ck (b := decide (P 15 = 2)) (k := 1) (z := 1) (by omega) rfl h
    obtain ⟨s3, s4⟩ := mS_ck (b := decide (l ≤ P 16 ∧ P 16 ≤ h9)) (k := 2) (z := 2) (by omega) rfl s1
    have h15 : P 15 = 2 ↔ tkK B n e = 2 := by
      have e1 := h.1.2.2.2.1
      have e2 := tkT_2 (k := tkK B n e)
      omega
    have hE : ckR B n (decide (l ≤ P 16 ∧ P 16 ≤ h9)) 2 (ckR B n (decide (P 15 = 2)) 1 (.inr e)) = lkR B n lo hi (.inr e) := by
      unfold lkR
      dsimp only
      by_cases hK : tkK B n e = 2
      · rw [if_pos hK, decide_eq_true (h15.mpr hK)]
        have hC := tkV_C h.1.1.2 hK
        have e16 := h.1.2.2.2.2.1
        by_cases hg : lo ≤ tkC B n e ∧ tkC B n e < hi
        · rw [if_pos hg, decide_eq_true (by omega)]; rfl
        · rw [if_neg hg, decide_eq_false (by omega)]; rfl
      · rw [if_neg hK, decide_eq_false (fun h => hK (h15.mp h))]; rfl
    rw [hE] at s3
    have hS3 : mS B n (lkM P l h9) (lkR B n lo hi (.inr e)) := s3
    refine ⟨lkM P l h9, _, hS3, mU_tr s2 s4, fun e9 he9 => ?_, fun hz => ?_, nUp hlk rfl rfl rfl⟩
    · rw [he9] at hS3
      rw [if_pos hS3.2.1]
      have hd : e9 = e ∧ tkK B n e = 2 ∧ lo ≤ tkC B n e ∧ tkC B n e < hi := by
        unfold lkR at he9
        dsimp only at he9
        split at he9
        · split at he9
          · cases he9; rename_i u1 u2; exact ⟨rfl, u1, u2⟩
          · cases he9
        · cases he9
      obtain ⟨rfl, d2, d3⟩ := hd
      have hC := tkV_C h.1.1.2 d2
      have e16 := h.1.2.2.2.2.1
      exact ⟨rfl, by omega⟩
    · obtain ⟨z, hz⟩ := hz
      rw [hz] at hS3
      exact if_neg (mS_L hS3)
theorem m_num {r : zR Nat} {lo hi : Nat} {l h9 : Int} (h : mS B n P r) (hn : n ≤ 600) (hby : ∀ i, i < n → bY i = (B i : Int) ∧ B i < 256) (hl : l = (lo : Int)) (hh : h9 + 1 = (hi : Int)) (hlo : lo ≤ 1000) (hhi : 1 ≤ hi ∧ hi ≤ 1000) : ∃ (P' : Nat → Int) (v : Int), mS B n P' (nxR B n (lkR B n lo hi r)) ∧ mU P P' ∧ (∀ e, lkR B n lo hi r = .inr e → r = .inr e ∧ v = ((tkC B n e : Nat) : Int)) ∧ ((∃ z, lkR B n lo hi r = .inl z) → v = l) ∧ ev m_M_number 0 [some (eR 0), some (eI l), some (eI h9)] [] ([mQ P, eA 0 964 g, eA 0 144 mk, eA 0 24 fr, eA 0 600 bY], c) = some (.inl (some (eI v)), ([mQ P', eA 0 964 g, eA 0 144 mk, eA 0 24 fr, eA 0 600 bY], c)) := by
  obtain ⟨P1, v, s1, u1, w1, w2, e1⟩ := m_lk (g := g) (mk := mk) (fr := fr) (c := c) h hn hby hl hh hlo hhi
  obtain ⟨P2, s2, u2, e2⟩ := m_nx (g := g) (mk := mk) (fr := fr) (c := c) s1 hn hby
  refine ⟨P2, v, s2, mU_tr u1 u2, w1, w2, ?_⟩
  refine xCallW (N := 4) (M2 := m_M_number) (pc2 := 3) (ls2 := [some (eR 0), some (eI l), some (eI h9)]) (st2 := []) (y := m_M_look) (as := [some (eR 0), some (eI l), some (eI h9)]) (w2 := ([mQ P, eA 0 964 g, eA 0 144 mk, eA 0 24 fr, eA 0 600 bY], c)) rfl e1 ?_
  refine xCallWV (N := 3) (M2 := m_M_number) (pc2 := 8) (ls2 := [some (eR 0), some (eI l), some (eI h9), some (eI v)]) (st2 := []) (y := m_M_next) (as := [some (eR 0)]) (w2 := ([mQ P1, eA 0 964 g, eA 0 144 mk, eA 0 24 fr, eA 0 600 bY], c)) rfl e2 ?_
  refine xSeg (N := 2) (r := some (.inl (some (eI v)), ([mQ P2, eA 0 964 g, eA 0 144 mk, eA 0 24 fr, eA 0 600 bY], c))) rfl ?_
  rfl
theorem m_fin {r : zR Nat} (h : mS B n P r) (hn : n ≤ 600) (hby : ∀ i, i < n → bY i = (B i : Int) ∧ B i < 256) : ∃ P' : Nat → Int, mS B n P' (nxR B n (fiR B n r)) ∧ mU P P' ∧ ev m_M_finish 0 [some (eR 0)] [] ([mQ P, eA 0 964 g, eA 0 144 mk, eA 0 24 fr, eA 0 600 bY], c) = some (.inl none, ([mQ P', eA 0 964 g, eA 0 144 mk, eA 0 24 fr, eA 0 600 bY], c)) := by
  obtain ⟨⟨e0, hk0⟩, h18⟩ := mS_at h
  obtain ⟨t1, t2, t3, t4, t5⟩ := tk_le (B := B) hk0.1.2
  have e15 := hk0.2.2.2.1
  have e14 := hk0.2.1
  have hT1 := tkT_1 (k := tkK B n e0)
  have hS : P 15 = 1 → tkS B n e0 < n := fun h1 => (t5 (by have := hT1.mp (by omega); omega)).2.1
  have hb : ckR B n (decide (P 15 = 1 ∧ B (tkS B n e0) = 59)) 1 r = fiR B n r := by
    cases r with
    | inl z => rfl
    | inr e =>
      have e15' := h.1.2.2.2.1
      have e14' := h.1.2.1
      have hT1' := tkT_1 (k := tkK B n e)
      have hse : tkS B n e = tkS B n e0 := by omega
      unfold fiR
      dsimp only
      by_cases hg : tkK B n e = 3 ∧ B (tkS B n e) = 59
      · rw [if_pos hg, decide_eq_true ⟨by omega, by rw [← hse]; exact hg.2⟩]; rfl
      · rw [if_neg hg, decide_eq_false (fun h1 => hg ⟨by omega, by rw [hse]; exact h1.2⟩)]; rfl
  obtain ⟨s1, u1⟩ := mS_ck (b := decide (P 15 = 1 ∧ B (tkS B n e0) = 59)) (k := 1) (z := 1) (by omega) rfl h
  rw [hb] at s1
  obtain ⟨P2, s2, u2, e2⟩ := m_nx (g := g) (mk := mk) (fr := fr) (c := c) s1 hn hby
  refine ⟨P2, s2, mU_tr u1 u2, ?_⟩
  have hc1 := fun z hz => n_check (P := P) (bY := bY) (c := (0, 0)) (x := z) (k := 1) (b := decide (P 15 = 1 ∧ B (tkS B n e0) = 59)) hz (by omega) h18
  have htail : ∀ z, z = bI (decide (P 15 = 1 ∧ B (tkS B n e0) = 59)) → ev m_M_finish 28 [some (eR 0)] [eI z, eR 0] ([mQ P, eA 0 964 g, eA 0 144 mk, eA 0 24 fr, eA 0 600 bY], c) = some (.inl none, ([mQ P2, eA 0 964 g, eA 0 144 mk, eA 0 24 fr, eA 0 600 bY], c)) := fun z hz => by
    have hc2 := hc1 z hz
    generalize ckM P (decide (P 15 = 1 ∧ B (tkS B n e0) = 59)) 1 = Q at hc2 e2
    generalize bI (decide (Q 18 = 0)) = v9 at hc2
    refine xCallW (N := 2) (M2 := m_M_finish) (pc2 := 29) (ls2 := [some (eR 0)]) (st2 := []) (y := m_M_check) (as := [some (eR 0), some (eI z), some (eI 1)]) (w2 := ([mQ P, eA 0 964 g, eA 0 144 mk, eA 0 24 fr, eA 0 600 bY], c)) rfl (nUp hc2 rfl rfl rfl) ?_
    refine xCallWV (N := 3) (M2 := m_M_finish) (pc2 := 34) (ls2 := [some (eR 0)]) (st2 := []) (y := m_M_next) (as := [some (eR 0)]) (w2 := ([mQ Q, eA 0 964 g, eA 0 144 mk, eA 0 24 fr, eA 0 600 bY], c)) rfl e2 ?_
    refine xSeg (N := 1) (r := some (.inl none, ([mQ P2, eA 0 964 g, eA 0 144 mk, eA 0 24 fr, eA 0 600 bY], c))) rfl ?_
    rfl
  have hb14 := hby (tkS B n e0)
  by_cases hT : P 15 = 1
  · have hb := hb14 (hS hT)
    have hl := hS hT
    by_cases h59 : B (tkS B n e0) = 59
    · generalize tkS B n e0 = S9 at *
      refine xEqT (N := 5) (x := P 15) (y := 1) (A := ev m_M_finish 9 [some (eR 0)] [eR 0] ([mQ P, eA 0 964 g, eA 0 144 mk, eA 0 24 fr, eA 0 600 bY], c)) (B := ev m_M_finish 27 [some (eR 0)] [eR 0] ([mQ P, eA 0 964 g, eA 0 144 mk, eA 0 24 fr, eA 0 600 bY], c)) rfl (wr_id (by omega) (by omega)) (show wr 1 = 1 by decide) (by omega) ?_
      refine xLd (N := 5) (n := 600) (i := P 14) (F := fun zq => ev m_M_finish 18 [some (eR 0)] [eI (bY zq), eR 0] ([mQ P, eA 0 964 g, eA 0 144 mk, eA 0 24 fr, eA 0 600 bY], c)) (k := S9) rfl (wr_nat (by omega) (by omega)) (by omega) ?_
      refine xEqT (N := 2) (x := bY S9) (y := 59) (A := ev m_M_finish 23 [some (eR 0)] [eR 0] ([mQ P, eA 0 964 g, eA 0 144 mk, eA 0 24 fr, eA 0 600 bY], c)) (B := ev m_M_finish 27 [some (eR 0)] [eR 0] ([mQ P, eA 0 964 g, eA 0 144 mk, eA 0 24 fr, eA 0 600 bY], c)) rfl (wr_id (by omega) (by omega)) (show wr 59 = 59 by decide) (by omega) ?_
      refine xSeg (N := 2) (r := ev m_M_finish 28 [some (eR 0)] [eI 1, eR 0] ([mQ P, eA 0 964 g, eA 0 144 mk, eA 0 24 fr, eA 0 600 bY], c)) rfl ?_
      exact htail _ (by rw [decide_eq_true ⟨hT, h59⟩]; rfl)
    · generalize tkS B n e0 = S9 at *
      refine xEqT (N := 5) (x := P 15) (y := 1) (A := ev m_M_finish 9 [some (eR 0)] [eR 0] ([mQ P, eA 0 964 g, eA 0 144 mk, eA 0 24 fr, eA 0 600 bY], c)) (B := ev m_M_finish 27 [some (eR 0)] [eR 0] ([mQ P, eA 0 964 g, eA 0 144 mk, eA 0 24 fr, eA 0 600 bY], c)) rfl (wr_id (by omega) (by omega)) (show wr 1 = 1 by decide) (by omega) ?_
      refine xLd (N := 5) (n := 600) (i := P 14) (F := fun zq => ev m_M_finish 18 [some (eR 0)] [eI (bY zq), eR 0] ([mQ P, eA 0 964 g, eA 0 144 mk, eA 0 24 fr, eA 0 600 bY], c)) (k := S9) rfl (wr_nat (by omega) (by omega)) (by omega) ?_
      refine xEqF (N := 2) (x := bY S9) (y := 59) (A := ev m_M_finish 23 [some (eR 0)] [eR 0] ([mQ P, eA 0 964 g, eA 0 144 mk, eA 0 24 fr, eA 0 600 bY], c)) (B := ev m_M_finish 27 [some (eR 0)] [eR 0] ([mQ P, eA 0 964 g, eA 0 144 mk, eA 0 24 fr, eA 0 600 bY], c)) rfl (wr_id (by omega) (by omega)) (show wr 59 = 59 by decide) (by omega) ?_
      refine xSeg (N := 1) (r := ev m_M_finish 28 [some (eR 0)] [eI 0, eR 0] ([mQ P, eA 0 964 g, eA 0 144 mk, eA 0 24 fr, eA 0 600 bY], c)) rfl ?_
      exact htail _ (by rw [decide_eq_false (fun h => h59 h.2)]; rfl)
  · generalize tkS B n e0 = S9 at *
    have hT3 := tkT_le (k := tkK B n e0)
    refine xEqF (N := 5) (x := P 15) (y := 1) (A := ev m_M_finish 9 [some (eR 0)] [eR 0] ([mQ P, eA 0 964 g, eA 0 144 mk, eA 0 24 fr, eA 0 600 bY], c)) (B := ev m_M_finish 27 [some (eR 0)] [eR 0] ([mQ P, eA 0 964 g, eA 0 144 mk, eA 0 24 fr, eA 0 600 bY], c)) rfl (wr_id (by omega) (by omega)) (show wr 1 = 1 by decide) (by omega) ?_
    refine xSeg (N := 1) (r := ev m_M_finish 28 [some (eR 0)] [eI 0, eR 0] ([mQ P, eA 0 964 g, eA 0 144 mk, eA 0 24 fr, eA 0 600 bY], c)) rfl ?_
    exact htail _ (by rw [decide_eq_false (fun h => hT h.1)]; rfl)
end
