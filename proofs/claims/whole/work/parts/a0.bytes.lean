/-! Bytes. -/
def n32 (x : Int) : Nat := (x % 4294967296).toNat
def bt8 (x : Int) (s : Nat) : Nat := n32 x >>> s % 256
theorem bt8_lt {x : Int} {s : Nat} : bt8 x s < 256 := Nat.mod_lt _ (by omega)
theorem n32_lt {x : Int} : n32 x < 4294967296 := by unfold n32; omega
theorem n32_nI {x : Int} : Int32.ofInt x = nI (n32 x) := by
  apply Int32.toBitVec_inj.mp
  show BitVec.ofInt 32 x = BitVec.ofNat 32 (n32 x)
  apply BitVec.eq_of_toNat_eq
  rw [BitVec.toNat_ofInt, BitVec.toNat_ofNat]
  unfold n32
  omega
theorem and255 (m : Nat) : m &&& 255 = m % 256 := Nat.and_two_pow_sub_one_eq_mod m 8
theorem bt8_0 {x : Int} : bAnd x 255 = ((bt8 x 0 : Nat) : Int) := by
  unfold bAnd
  rw [n32_nI, show (255 : Int) = ((255 : Nat) : Int) from rfl, oI_n, nI_and, and255, nI_toInt (by omega)]
  rfl
theorem bUshr_x {x : Int} {k : Nat} (hk : k < 32) (h0 : 1 ≤ k) : bUshr x (k : Int) = ((n32 x >>> k : Nat) : Int) ∧ n32 x >>> k < 2147483648 := by
  have hn := n32_lt (x := x)
  have hlt : n32 x >>> k < 2147483648 := by
    rw [Nat.shiftRight_eq_div_pow]
    have : 2 ≤ 2 ^ k := Nat.le_trans (by decide : 2 ≤ 2 ^ 1) (Nat.pow_le_pow_right (by omega) h0)
    exact Nat.div_lt_of_lt_mul (Nat.lt_of_lt_of_le hn (Nat.mul_le_mul_right 2147483648 this))
  refine ⟨?_, hlt⟩
  unfold bUshr
  rw [n32_nI, oI_n]
  have h0 : ∀ k, k < 32 → (((nI k).toUInt32 &&& Int32.toUInt32 31).toBitVec % 32).toNat = k := by decide +kernel
  have h : ((nI (n32 x)).toUInt32 >>> ((nI k).toUInt32 &&& Int32.toUInt32 31)).toInt32 = nI (n32 x >>> k) := by
    apply Int32.toBitVec_inj.mp
    show (BitVec.ofNat 32 (n32 x)) >>> (((nI k).toUInt32 &&& Int32.toUInt32 31).toBitVec % 32) = BitVec.ofNat 32 (n32 x >>> k)
    rw [BitVec.ushiftRight_eq', h0 k hk]
    apply BitVec.eq_of_toNat_eq
    rw [BitVec.toNat_ushiftRight, BitVec.toNat_ofNat, BitVec.toNat_ofNat, Nat.mod_eq_of_lt (by omega), Nat.mod_eq_of_lt (by omega)]
  rw [h, nI_toInt hlt]
theorem bt8_u {x : Int} {k : Nat} (hk : k < 32) (h0 : 1 ≤ k) : bAnd (bUshr x (k : Int)) 255 = ((bt8 x k : Nat) : Int) := by
  obtain ⟨h1, h2⟩ := bUshr_x (x := x) hk h0
  rw [h1, show (255 : Int) = ((255 : Nat) : Int) from rfl, bAnd_n h2, and255]
  rfl
theorem bt8_24 {x : Int} : bUshr x 24 = ((bt8 x 24 : Nat) : Int) := by
  have h := (bUshr_x (x := x) (k := 24) (by omega) (by omega)).1
  have hn := n32_lt (x := x)
  rw [show (24 : Int) = ((24 : Nat) : Int) from rfl, h]
  unfold bt8
  rw [Nat.mod_eq_of_lt]
  rw [Nat.shiftRight_eq_div_pow]
  omega
theorem bt8_s {x : Int} {k : Nat} (hk : k < 25) : bAnd (bShr x (k : Int)) 255 = ((bt8 x k : Nat) : Int) := by
  unfold bAnd bShr
  rw [n32_nI (x := x), oI_n, show (255 : Int) = ((255 : Nat) : Int) from rfl, oI_n, Int32.ofInt_toInt]
  have h0 : ∀ k, k < 32 → ((nI k &&& 31).toBitVec.smod 32).toNat = k := by decide +kernel
  have h : nI (n32 x) >>> (nI k &&& 31) &&& nI 255 = nI (bt8 x k) := by
    apply Int32.toBitVec_inj.mp
    rw [Int32.toBitVec_and, Int32.toBitVec_shiftRight]
    show (BitVec.ofNat 32 (n32 x)).sshiftRight ((nI k &&& 31).toBitVec.smod 32).toNat &&& BitVec.ofNat 32 255 = BitVec.ofNat 32 (bt8 x k)
    rw [h0 k (by omega)]
    apply BitVec.eq_of_getLsbD_eq
    intro i hi
    rw [BitVec.getLsbD_and, BitVec.getLsbD_sshiftRight, BitVec.getLsbD_ofNat, BitVec.getLsbD_ofNat, BitVec.getLsbD_ofNat]
    have hb : bt8 x k = (n32 x >>> k) % 2 ^ 8 := rfl
    rw [hb, Nat.testBit_mod_two_pow, Nat.testBit_shiftRight, show (255 : Nat) = 2 ^ 8 - 1 from rfl, Nat.testBit_two_pow_sub_one]
    by_cases h8 : i < 8
    · have h1 : k + i < 32 := by omega
      simp [hi, h8, h1]
    · simp [h8]
  rw [h, nI_toInt (Nat.lt_trans bt8_lt (by omega))]
/-- a byte is put -/
theorem byR {bY : Nat → Int} {B : Nat → Nat} {n b N : Nat} {v : Int} (h : ∀ i, i < N → bY i = (B i : Int) ∧ B i < 256) (hv : v = (b : Int)) (hb : b < 256) : ∀ i, i < N ∨ (i = n ∧ n ≤ N) → eUp bY n v i = (up B n b i : Int) ∧ up B n b i < 256 := fun i hi => by
  unfold eUp up
  by_cases hin : i = n
  · rw [if_pos hin, if_pos hin]; exact ⟨hv, hb⟩
  · rw [if_neg hin, if_neg hin]; exact h i (by omega)
/-- four bytes -/
def ap4 (B : Nat → Nat) (n : Nat) (x : Int) : Nat → Nat := up (up (up (up B n (bt8 x 24)) (n + 1) (bt8 x 16)) (n + 1 + 1) (bt8 x 8)) (n + 1 + 1 + 1) (bt8 x 0)
def ap20 (B : Nat → Nat) (n : Nat) (x y z u v : Int) : Nat → Nat := ap4 (ap4 (ap4 (ap4 (ap4 B n x) (n + 4) y) (n + 8) z) (n + 12) u) (n + 16) v
def eA4 (f : Nat → Int) (n : Nat) (a b c d : Int) : Nat → Int := eUp (eUp (eUp (eUp f n a) (n + 1) b) (n + 1 + 1) c) (n + 1 + 1 + 1) d
theorem ap4_lo {bY : Nat → Int} {B : Nat → Nat} {n : Nat} {x a b c d : Int} (h : ∀ i, i < n → bY i = (B i : Int) ∧ B i < 256) (ha : a = ((bt8 x 24 : Nat) : Int)) (hb : b = ((bt8 x 16 : Nat) : Int)) (hc : c = ((bt8 x 8 : Nat) : Int)) (hd : d = ((bt8 x 0 : Nat) : Int)) : ∀ i, i < n + 4 → eA4 bY n a b c d i = (ap4 B n x i : Int) ∧ ap4 B n x i < 256 := fun i hi => by
  have h1 := byR (n := n) (N := n) h ha bt8_lt
  have h2 := byR (n := n + 1) (N := n + 1) (fun i hi => h1 i (by omega)) hb bt8_lt
  have h3 := byR (n := n + 1 + 1) (N := n + 1 + 1) (fun i hi => h2 i (by omega)) hc bt8_lt
  have h4 := byR (n := n + 1 + 1 + 1) (N := n + 1 + 1 + 1) (fun i hi => h3 i (by omega)) hd bt8_lt
  exact h4 i (by omega)
theorem ap4_hi {bY : Nat → Int} {B : Nat → Nat} {n : Nat} {x a b c d : Int} (h : ∀ i, i < 600 → bY i = (B i : Int) ∧ B i < 256) (hn : n + 4 ≤ 600) (ha : a = ((bt8 x 24 : Nat) : Int)) (hb : b = ((bt8 x 16 : Nat) : Int)) (hc : c = ((bt8 x 8 : Nat) : Int)) (hd : d = ((bt8 x 0 : Nat) : Int)) : ∀ i, i < 600 → eA4 bY n a b c d i = (ap4 B n x i : Int) ∧ ap4 B n x i < 256 := fun i hi => by
  have h1 := byR (n := n) (N := 600) h ha bt8_lt
  have h2 := byR (n := n + 1) (N := 600) (fun i hi => h1 i (by omega)) hb bt8_lt
  have h3 := byR (n := n + 1 + 1) (N := 600) (fun i hi => h2 i (by omega)) hc bt8_lt
  have h4 := byR (n := n + 1 + 1 + 1) (N := 600) (fun i hi => h3 i (by omega)) hd bt8_lt
  exact h4 i (by omega)
set_option maxRecDepth 100000
theorem w_Nb {P P' g gp gt gr gs mk fr kp bM bM' oM : Nat → Int} {y : Nat} {as as' : eL} {o o' : Option eV ⊕ Nat} {c : Nat × Nat} (h : ev y 0 as [] ([mN P, eA 0 600 bM], (0, 0)) = some (o, ([mN P', eA 0 600 bM'], (0, 0)))) (ha : okLU σW2 2 as = true) (has : rL σW2 [0, 9] as = as') (ho : rO σW2 [0, 9] o = o') : ev y 0 as' [] ([mW P, eA 0 964 g, eA 0 964 gp, eA 0 964 gt, eA 0 7712 gr, eA 0 1928 gs, eA 0 144 mk, eA 0 24 fr, eA 1 2 kp, eA 0 600 bM, eA 2 6 oM], c) = some (o', ([mW P', eA 0 964 g, eA 0 964 gp, eA 0 964 gt, eA 0 7712 gr, eA 0 1928 gs, eA 0 144 mk, eA 0 24 fr, eA 1 2 kp, eA 0 600 bM', eA 2 6 oM], c)) :=
  xAt (σ := σW2) (α := [0, 9]) h rfl rfl rfl rfl rfl ha has ho rfl
theorem n_appendWord {P bY : Nat → Int} {n : Nat} {x : Int} (hz : P 12 = (n : Int)) (hn : n + 4 ≤ 600) : ev m_M_appendWord 0 [some (eR 0), some (eI x)] [] ([mN P, eA 0 600 bY], (0, 0)) = some (.inl none, ([mN (eUp P 12 (P 12 + 1 + 1 + 1 + 1)), eA 0 600 (eA4 bY n (bAnd (bShr x 24) 255) (bAnd (bShr x 16) 255) (bAnd (bShr x 8) 255) (bAnd (bShr x 0) 255))], (0, 0))) := by
  refine xLtF (N := 4) (x := 24) (y := 0) (A := ev m_M_appendWord 39 [some (eR 0), some (eI x), some (eI 24)] [] ([mN P, eA 0 600 bY], (0, 0))) (B := ev m_M_appendWord 7 [some (eR 0), some (eI x), some (eI 24)] [] ([mN P, eA 0 600 bY], (0, 0))) rfl (show wr 24 = 24 by decide) (show wr 0 = 0 by decide) (by decide) ?_
  refine xLd (N := 10) (n := 600) (i := P 12) (F := fun zq => ev m_M_appendWord 23 [some (eR 0), some (eI x), some (eI 24)] [] ([mN P, eA 0 600 (eUp bY zq (bAnd (bShr x 24) 255))], (0, 0))) (k := (P 12).toNat) rfl (wr_nat (by omega) (by omega)) (by omega) ?_
  refine xLtF (N := 10) (x := 16) (y := 0) (A := ev m_M_appendWord 39 [some (eR 0), some (eI x), some (eI 16)] [] ([mN (eUp P 12 ((P 12) + 1)), eA 0 600 (eUp bY ((P 12).toNat) (bAnd (bShr x 24) 255))], (0, 0))) (B := ev m_M_appendWord 7 [some (eR 0), some (eI x), some (eI 16)] [] ([mN (eUp P 12 ((P 12) + 1)), eA 0 600 (eUp bY ((P 12).toNat) (bAnd (bShr x 24) 255))], (0, 0))) rfl (show wr 16 = 16 by decide) (show wr 0 = 0 by decide) (by decide) ?_
  refine xLd (N := 10) (n := 600) (i := ((P 12) + 1)) (F := fun zq => ev m_M_appendWord 23 [some (eR 0), some (eI x), some (eI 16)] [] ([mN (eUp P 12 ((P 12) + 1)), eA 0 600 (eUp (eUp bY ((P 12).toNat) (bAnd (bShr x 24) 255)) zq (bAnd (bShr x 16) 255))], (0, 0))) (k := (((P 12) + 1)).toNat) rfl (wr_nat (by omega) (by omega)) (by omega) ?_
  refine xLtF (N := 10) (x := 8) (y := 0) (A := ev m_M_appendWord 39 [some (eR 0), some (eI x), some (eI 8)] [] ([mN (eUp (eUp P 12 ((P 12) + 1)) 12 (((P 12) + 1) + 1)), eA 0 600 (eUp (eUp bY ((P 12).toNat) (bAnd (bShr x 24) 255)) ((((P 12) + 1)).toNat) (bAnd (bShr x 16) 255))], (0, 0))) (B := ev m_M_appendWord 7 [some (eR 0), some (eI x), some (eI 8)] [] ([mN (eUp (eUp P 12 ((P 12) + 1)) 12 (((P 12) + 1) + 1)), eA 0 600 (eUp (eUp bY ((P 12).toNat) (bAnd (bShr x 24) 255)) ((((P 12) + 1)).toNat) (bAnd (bShr x 16) 255))], (0, 0))) rfl (show wr 8 = 8 by decide) (show wr 0 = 0 by decide) (by decide) ?_
  refine xLd (N := 10) (n := 600) (i := (((P 12) + 1) + 1)) (F := fun zq => ev m_M_appendWord 23 [some (eR 0), some (eI x), some (eI 8)] [] ([mN (eUp (eUp P 12 ((P 12) + 1)) 12 (((P 12) + 1) + 1)), eA 0 600 (eUp (eUp (eUp bY ((P 12).toNat) (bAnd (bShr x 24) 255)) ((((P 12) + 1)).toNat) (bAnd (bShr x 16) 255)) zq (bAnd (bShr x 8) 255))], (0, 0))) (k := ((((P 12) + 1) + 1)).toNat) rfl (wr_nat (by omega) (by omega)) (by omega) ?_
  refine xLtF (N := 10) (x := 0) (y := 0) (A := ev m_M_appendWord 39 [some (eR 0), some (eI x), some (eI 0)] [] ([mN (eUp (eUp (eUp P 12 ((P 12) + 1)) 12 (((P 12) + 1) + 1)) 12 ((((P 12) + 1) + 1) + 1)), eA 0 600 (eUp (eUp (eUp bY ((P 12).toNat) (bAnd (bShr x 24) 255)) ((((P 12) + 1)).toNat) (bAnd (bShr x 16) 255)) (((((P 12) + 1) + 1)).toNat) (bAnd (bShr x 8) 255))], (0, 0))) (B := ev m_M_appendWord 7 [some (eR 0), some (eI x), some (eI 0)] [] ([mN (eUp (eUp (eUp P 12 ((P 12) + 1)) 12 (((P 12) + 1) + 1)) 12 ((((P 12) + 1) + 1) + 1)), eA 0 600 (eUp (eUp (eUp bY ((P 12).toNat) (bAnd (bShr x 24) 255)) ((((P 12) + 1)).toNat) (bAnd (bShr x 16) 255)) (((((P 12) + 1) + 1)).toNat) (bAnd (bShr x 8) 255))], (0, 0))) rfl (show wr 0 = 0 by decide) (show wr 0 = 0 by decide) (by decide) ?_
  refine xLd (N := 10) (n := 600) (i := ((((P 12) + 1) + 1) + 1)) (F := fun zq => ev m_M_appendWord 23 [some (eR 0), some (eI x), some (eI 0)] [] ([mN (eUp (eUp (eUp P 12 ((P 12) + 1)) 12 (((P 12) + 1) + 1)) 12 ((((P 12) + 1) + 1) + 1)), eA 0 600 (eUp (eUp (eUp (eUp bY ((P 12).toNat) (bAnd (bShr x 24) 255)) ((((P 12) + 1)).toNat) (bAnd (bShr x 16) 255)) (((((P 12) + 1) + 1)).toNat) (bAnd (bShr x 8) 255)) zq (bAnd (bShr x 0) 255))], (0, 0))) (k := (((((P 12) + 1) + 1) + 1)).toNat) rfl (wr_nat (by omega) (by omega)) (by omega) ?_
  refine xLtT (N := 10) (x := (-8)) (y := 0) (A := ev m_M_appendWord 39 [some (eR 0), some (eI x), some (eI (-8))] [] ([mN (eUp (eUp (eUp (eUp P 12 ((P 12) + 1)) 12 (((P 12) + 1) + 1)) 12 ((((P 12) + 1) + 1) + 1)) 12 (((((P 12) + 1) + 1) + 1) + 1)), eA 0 600 (eUp (eUp (eUp (eUp bY ((P 12).toNat) (bAnd (bShr x 24) 255)) ((((P 12) + 1)).toNat) (bAnd (bShr x 16) 255)) (((((P 12) + 1) + 1)).toNat) (bAnd (bShr x 8) 255)) ((((((P 12) + 1) + 1) + 1)).toNat) (bAnd (bShr x 0) 255))], (0, 0))) (B := ev m_M_appendWord 7 [some (eR 0), some (eI x), some (eI (-8))] [] ([mN (eUp (eUp (eUp (eUp P 12 ((P 12) + 1)) 12 (((P 12) + 1) + 1)) 12 ((((P 12) + 1) + 1) + 1)) 12 (((((P 12) + 1) + 1) + 1) + 1)), eA 0 600 (eUp (eUp (eUp (eUp bY ((P 12).toNat) (bAnd (bShr x 24) 255)) ((((P 12) + 1)).toNat) (bAnd (bShr x 16) 255)) (((((P 12) + 1) + 1)).toNat) (bAnd (bShr x 8) 255)) ((((((P 12) + 1) + 1) + 1)).toNat) (bAnd (bShr x 0) 255))], (0, 0))) rfl (show wr (-8) = (-8) by decide) (show wr 0 = 0 by decide) (by decide) ?_
  refine xSeg (N := 1) (r := some (.inl none, ([mN (eUp (eUp (eUp (eUp P 12 ((P 12) + 1)) 12 (((P 12) + 1) + 1)) 12 ((((P 12) + 1) + 1) + 1)) 12 (((((P 12) + 1) + 1) + 1) + 1)), eA 0 600 (eUp (eUp (eUp (eUp bY ((P 12).toNat) (bAnd (bShr x 24) 255)) ((((P 12) + 1)).toNat) (bAnd (bShr x 16) 255)) (((((P 12) + 1) + 1)).toNat) (bAnd (bShr x 8) 255)) ((((((P 12) + 1) + 1) + 1)).toNat) (bAnd (bShr x 0) 255))], (0, 0)))) rfl ?_
  rw [show (P 12).toNat = n by omega, show (P 12 + 1).toNat = n + 1 by omega, show (P 12 + 1 + 1).toNat = n + 1 + 1 by omega, show (P 12 + 1 + 1 + 1).toNat = n + 1 + 1 + 1 by omega]
  rfl
theorem m_app {P g gp gt gr gs mk fr kp bM oM : Nat → Int} {us : Nat} {a : eRow} {X : xT} {t x : Int} {n : Nat} (h : MR P g gr gs kp bM oM us a X t) (hX : X.2.2.1.1 = n) (hn : n + 4 ≤ 600) : ∃ P' bM' : Nat → Int, MR P' g gr gs kp bM' oM us a (inX X (n + 4) (ap4 X.2.2.1.2 n x)) t ∧ ev m_M_appendWord 0 [some (eR 0), some (eI x)] [] ([mW P, eA 0 964 g, eA 0 964 gp, eA 0 964 gt, eA 0 7712 gr, eA 0 1928 gs, eA 0 144 mk, eA 0 24 fr, eA 1 2 kp, eA 0 600 bM, eA 2 6 oM], (0, 0)) = some (.inl none, ([mW P', eA 0 964 g, eA 0 964 gp, eA 0 964 gt, eA 0 7712 gr, eA 0 1928 gs, eA 0 144 mk, eA 0 24 fr, eA 1 2 kp, eA 0 600 bM', eA 2 6 oM], (0, 0))) := by
  obtain ⟨r3, r3n, r3b⟩ := h.2.2.1
  rw [hX] at r3 r3n r3b
  have q := n_appendWord (bY := bM) (x := x) r3 hn
  have R := MR_in (n := n + 4) (B := ap4 X.2.2.1.2 n x) (z := P 12 + 1 + 1 + 1 + 1) h (by omega) (by omega) (ap4_lo (x := x) r3b (bt8_s (k := 24) (by omega)) (bt8_s (k := 16) (by omega)) (bt8_s (k := 8) (by omega)) (bt8_s (k := 0) (by omega)))
  exact ⟨_, _, R, w_Nb q rfl rfl rfl⟩
theorem km_appendInput {a : eRow} {X : xT} {x y z u v : Int} {n : Nat} (hX : X.2.2.1.1 = n) (hn : n + 20 ≤ 600) : KM m_M_appendInput [some (eI x), some (eI y), some (eI z), some (eI u), some (eI v)] a X (a) (inX X (n + 20) (ap20 X.2.2.1.2 n x y z u v)) 0 (((n + 20 : Nat) : Int)) := by
  intro P g gp gt gr gs mk fr kp bM oM us t0 h
  have h8 := h
  obtain ⟨⟨hg, hI, hB⟩, r2, ⟨r3, r3n, r3b⟩, r4, ⟨r5, r5n, r5b⟩, ⟨p1, p2, p3, p4, p5⟩, r7⟩ := h
  have hI8 := hI
  obtain ⟨hG, ⟨v1, v2⟩, hO, hT, hM⟩ := hI8
  obtain ⟨⟨q1, q2, q3, q4, q5⟩, q6⟩ := hG
  have b5 := iT_24 q5 hT
  have e0 := hg 0 (by omega)
  have e1 := hg 1 (by omega)
  have e2 := hg 2 (by omega)
  have e3 := hg 3 (by omega)
  have e4 := hg 4 (by omega)
  have e5 := hg 5 (by omega)
  obtain ⟨P1, bM1, R1, a1⟩ := m_app (x := x) (gp := gp) (gt := gt) (mk := mk) (fr := fr) (MR_t (t' := 0) h8) hX (by omega)
  obtain ⟨P2, bM2, R2, a2⟩ := m_app (x := y) (gp := gp) (gt := gt) (mk := mk) (fr := fr) (n := n + 4) R1 rfl (by omega)
  obtain ⟨P3, bM3, R3, a3⟩ := m_app (x := z) (gp := gp) (gt := gt) (mk := mk) (fr := fr) (n := n + 8) R2 rfl (by omega)
  obtain ⟨P4, bM4, R4, a4⟩ := m_app (x := u) (gp := gp) (gt := gt) (mk := mk) (fr := fr) (n := n + 12) R3 rfl (by omega)
  obtain ⟨P5, bM5, R5, a5⟩ := m_app (x := v) (gp := gp) (gt := gt) (mk := mk) (fr := fr) (n := n + 16) R4 rfl (by omega)
  refine ⟨P5, g, gp, gt, gr, gs, mk, fr, kp, bM5, oM, us, P5 12, R5, fun _ => R5.2.2.1.1, ?_⟩
  refine xLtF (N := 10) (x := 600) (y := (P 12) + 20) (A := ev m_M_appendInput 19 [some (eR 0), some (eI x), some (eI y), some (eI z), some (eI u), some (eI v)] [eR 0] ([mW (eUp P 10 0), eA 0 964 g, eA 0 964 gp, eA 0 964 gt, eA 0 7712 gr, eA 0 1928 gs, eA 0 144 mk, eA 0 24 fr, eA 1 2 kp, eA 0 600 bM, eA 2 6 oM], (0, 0))) (B := ev m_M_appendInput 23 [some (eR 0), some (eI x), some (eI y), some (eI z), some (eI u), some (eI v)] [eR 0] ([mW (eUp P 10 0), eA 0 964 g, eA 0 964 gp, eA 0 964 gt, eA 0 7712 gr, eA 0 1928 gs, eA 0 144 mk, eA 0 24 fr, eA 1 2 kp, eA 0 600 bM, eA 2 6 oM], (0, 0))) rfl (show wr 600 = 600 by decide) (wr_id (by omega) (by omega)) (by omega) ?_
  refine xCallW (N := 3) (M2 := m_M_appendInput) (pc2 := 25) (ls2 := [some (eR 0), some (eI x), some (eI y), some (eI z), some (eI u), some (eI v)]) (st2 := []) (y := m_M_refuses) (as := [some (eR 0), some (eI 0), some (eI 1)]) (w2 := ([mW (eUp P 10 0), eA 0 964 g, eA 0 964 gp, eA 0 964 gt, eA 0 7712 gr, eA 0 1928 gs, eA 0 144 mk, eA 0 24 fr, eA 1 2 kp, eA 0 600 bM, eA 2 6 oM], (0, 0))) rfl (w_Z (z_refF (c := (0, 0))) rfl rfl rfl) ?_
  refine xEqT (N := 1) (x := 0) (y := 0) (A := ev m_M_appendInput 33 [some (eR 0), some (eI x), some (eI y), some (eI z), some (eI u), some (eI v)] [] ([mW (eUp P 10 0), eA 0 964 g, eA 0 964 gp, eA 0 964 gt, eA 0 7712 gr, eA 0 1928 gs, eA 0 144 mk, eA 0 24 fr, eA 1 2 kp, eA 0 600 bM, eA 2 6 oM], (0, 0))) (B := ev m_M_appendInput 31 [some (eR 0), some (eI x), some (eI y), some (eI z), some (eI u), some (eI v)] [] ([mW (eUp P 10 0), eA 0 964 g, eA 0 964 gp, eA 0 964 gt, eA 0 7712 gr, eA 0 1928 gs, eA 0 144 mk, eA 0 24 fr, eA 1 2 kp, eA 0 600 bM, eA 2 6 oM], (0, 0))) rfl (show wr 0 = 0 by decide) (show wr 0 = 0 by decide) (by decide) ?_
  refine xCallWV (N := 3) (M2 := m_M_appendInput) (pc2 := 35) (ls2 := [some (eR 0), some (eI x), some (eI y), some (eI z), some (eI u), some (eI v)]) (st2 := []) (y := m_M_appendWord) (as := [some (eR 0), some (eI x)]) (w2 := ([mW (eUp P 10 0), eA 0 964 g, eA 0 964 gp, eA 0 964 gt, eA 0 7712 gr, eA 0 1928 gs, eA 0 144 mk, eA 0 24 fr, eA 1 2 kp, eA 0 600 bM, eA 2 6 oM], (0, 0))) rfl a1 ?_
  refine xCallWV (N := 3) (M2 := m_M_appendInput) (pc2 := 40) (ls2 := [some (eR 0), some (eI x), some (eI y), some (eI z), some (eI u), some (eI v)]) (st2 := []) (y := m_M_appendWord) (as := [some (eR 0), some (eI y)]) (w2 := ([mW P1, eA 0 964 g, eA 0 964 gp, eA 0 964 gt, eA 0 7712 gr, eA 0 1928 gs, eA 0 144 mk, eA 0 24 fr, eA 1 2 kp, eA 0 600 bM1, eA 2 6 oM], (0, 0))) rfl a2 ?_
  refine xCallWV (N := 3) (M2 := m_M_appendInput) (pc2 := 45) (ls2 := [some (eR 0), some (eI x), some (eI y), some (eI z), some (eI u), some (eI v)]) (st2 := []) (y := m_M_appendWord) (as := [some (eR 0), some (eI z)]) (w2 := ([mW P2, eA 0 964 g, eA 0 964 gp, eA 0 964 gt, eA 0 7712 gr, eA 0 1928 gs, eA 0 144 mk, eA 0 24 fr, eA 1 2 kp, eA 0 600 bM2, eA 2 6 oM], (0, 0))) rfl a3 ?_
  refine xCallWV (N := 3) (M2 := m_M_appendInput) (pc2 := 51) (ls2 := [some (eR 0), some (eI x), some (eI y), some (eI z), some (eI u), some (eI v)]) (st2 := []) (y := m_M_appendWord) (as := [some (eR 0), some (eI u)]) (w2 := ([mW P3, eA 0 964 g, eA 0 964 gp, eA 0 964 gt, eA 0 7712 gr, eA 0 1928 gs, eA 0 144 mk, eA 0 24 fr, eA 1 2 kp, eA 0 600 bM3, eA 2 6 oM], (0, 0))) rfl a4 ?_
  refine xCallWV (N := 3) (M2 := m_M_appendInput) (pc2 := 57) (ls2 := [some (eR 0), some (eI x), some (eI y), some (eI z), some (eI u), some (eI v)]) (st2 := []) (y := m_M_appendWord) (as := [some (eR 0), some (eI v)]) (w2 := ([mW P4, eA 0 964 g, eA 0 964 gp, eA 0 964 gt, eA 0 7712 gr, eA 0 1928 gs, eA 0 144 mk, eA 0 24 fr, eA 1 2 kp, eA 0 600 bM4, eA 2 6 oM], (0, 0))) rfl a5 ?_
  refine xSeg (N := 3) (r := some (.inl (some (eI (P5 12))), ([mW P5, eA 0 964 g, eA 0 964 gp, eA 0 964 gt, eA 0 7712 gr, eA 0 1928 gs, eA 0 144 mk, eA 0 24 fr, eA 1 2 kp, eA 0 600 bM5, eA 2 6 oM], (0, 0)))) rfl ?_
  rfl
theorem km_appendInputX {a : eRow} {X : xT} {x y z u v : Int} (hn : ¬ (X.2.2.1.1 + 20 ≤ 600)) : KM m_M_appendInput [some (eI x), some (eI y), some (eI z), some (eI u), some (eI v)] a X (a) (X) 1 (0) := by
  intro P g gp gt gr gs mk fr kp bM oM us t0 h
  have h8 := h
  obtain ⟨⟨hg, hI, hB⟩, r2, ⟨r3, r3n, r3b⟩, r4, ⟨r5, r5n, r5b⟩, ⟨p1, p2, p3, p4, p5⟩, r7⟩ := h
  have hI8 := hI
  obtain ⟨hG, ⟨v1, v2⟩, hO, hT, hM⟩ := hI8
  obtain ⟨⟨q1, q2, q3, q4, q5⟩, q6⟩ := hG
  have b5 := iT_24 q5 hT
  have e0 := hg 0 (by omega)
  have e1 := hg 1 (by omega)
  have e2 := hg 2 (by omega)
  have e3 := hg 3 (by omega)
  have e4 := hg 4 (by omega)
  have e5 := hg 5 (by omega)
  refine ⟨eUp (eUp P 10 0) 10 1, g, gp, gt, gr, gs, mk, fr, kp, bM, oM, us, 0, MR_t (MR_t h8), fun _ => rfl, ?_⟩
  refine xLtT (N := 10) (x := 600) (y := (P 12) + 20) (A := ev m_M_appendInput 19 [some (eR 0), some (eI x), some (eI y), some (eI z), some (eI u), some (eI v)] [eR 0] ([mW (eUp P 10 0), eA 0 964 g, eA 0 964 gp, eA 0 964 gt, eA 0 7712 gr, eA 0 1928 gs, eA 0 144 mk, eA 0 24 fr, eA 1 2 kp, eA 0 600 bM, eA 2 6 oM], (0, 0))) (B := ev m_M_appendInput 23 [some (eR 0), some (eI x), some (eI y), some (eI z), some (eI u), some (eI v)] [eR 0] ([mW (eUp P 10 0), eA 0 964 g, eA 0 964 gp, eA 0 964 gt, eA 0 7712 gr, eA 0 1928 gs, eA 0 144 mk, eA 0 24 fr, eA 1 2 kp, eA 0 600 bM, eA 2 6 oM], (0, 0))) rfl (show wr 600 = 600 by decide) (wr_id (by omega) (by omega)) (by omega) ?_
  refine xCallW (N := 4) (M2 := m_M_appendInput) (pc2 := 25) (ls2 := [some (eR 0), some (eI x), some (eI y), some (eI z), some (eI u), some (eI v)]) (st2 := []) (y := m_M_refuses) (as := [some (eR 0), some (eI 1), some (eI 1)]) (w2 := ([mW (eUp P 10 0), eA 0 964 g, eA 0 964 gp, eA 0 964 gt, eA 0 7712 gr, eA 0 1928 gs, eA 0 144 mk, eA 0 24 fr, eA 1 2 kp, eA 0 600 bM, eA 2 6 oM], (0, 0))) rfl (w_Z (z_refT (c := (0, 0)) (by omega)) rfl rfl rfl) ?_
  refine xEqF (N := 1) (x := 1) (y := 0) (A := ev m_M_appendInput 33 [some (eR 0), some (eI x), some (eI y), some (eI z), some (eI u), some (eI v)] [] ([mW (eUp (eUp P 10 0) 10 1), eA 0 964 g, eA 0 964 gp, eA 0 964 gt, eA 0 7712 gr, eA 0 1928 gs, eA 0 144 mk, eA 0 24 fr, eA 1 2 kp, eA 0 600 bM, eA 2 6 oM], (0, 0))) (B := ev m_M_appendInput 31 [some (eR 0), some (eI x), some (eI y), some (eI z), some (eI u), some (eI v)] [] ([mW (eUp (eUp P 10 0) 10 1), eA 0 964 g, eA 0 964 gp, eA 0 964 gt, eA 0 7712 gr, eA 0 1928 gs, eA 0 144 mk, eA 0 24 fr, eA 1 2 kp, eA 0 600 bM, eA 2 6 oM], (0, 0))) rfl (show wr 1 = 1 by decide) (show wr 0 = 0 by decide) (by decide) ?_
  refine xSeg (N := 2) (r := some (.inl (some (eI 0)), ([mW (eUp (eUp P 10 0) 10 1), eA 0 964 g, eA 0 964 gp, eA 0 964 gt, eA 0 7712 gr, eA 0 1928 gs, eA 0 144 mk, eA 0 24 fr, eA 1 2 kp, eA 0 600 bM, eA 2 6 oM], (0, 0)))) rfl ?_
  rfl
