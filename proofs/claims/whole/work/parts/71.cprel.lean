theorem cpW_f {S T : wS} : (cpW S T 1 0 = T 1 0 ∧ cpW S T 1 1 = T 1 1 ∧ cpW S T 1 4 = T 1 4) ∧ (cpW S T 0 3 = T 0 3 ∧ cpW S T 0 4 = T 0 4 ∧ cpW S T 0 8 = T 0 8 ∧ cpW S T 0 9 = T 0 9 ∧ cpW S T 0 10 = T 0 10) ∧ cpW S T 11 0 = T 11 0 := ⟨⟨rfl, rfl, rfl⟩, ⟨rfl, rfl, rfl, rfl, rfl⟩, rfl⟩
theorem cpW_a {S T : wS} : (cpW S T 2 = cpZ (T 2) (S 2) 36 ∧ cpW S T 3 = eCpy (T 3) (S 3) 0 0 36 ∧ cpW S T 4 = eCpy (T 4) (S 4) 0 0 24 ∧ cpW S T 5 = eCpy (T 5) (S 5) 0 0 24 ∧ cpW S T 6 = cpZ (T 6) (S 6) 24 ∧ cpW S T 7 = eCpy (T 7) (S 7) 0 0 36 ∧ cpW S T 8 = eCpy (T 8) (S 8) 0 0 36 ∧ cpW S T 9 = eCpy (T 9) (S 9) 0 0 144 ∧ cpW S T 10 = eCpy (T 10) (S 10) 0 0 144) ∧ (cpW S T 12 = eCpy (T 12) (S 12) 0 0 30 ∧ cpW S T 13 = eCpy (T 13) (S 13) 0 0 180 ∧ cpW S T 14 = eCpy (T 14) (S 14) 0 0 26) ∧ (cpW S T 15 = eCpy (T 15) (S 15) 0 0 24 ∧ cpW S T 16 = eCpy (T 16) (S 16) 0 0 24 ∧ cpW S T 17 = eCpy (T 17) (S 17) 0 0 24 ∧ cpW S T 18 = eCpy (T 18) (S 18) 0 0 576) := ⟨⟨rfl, rfl, rfl, rfl, rfl, rfl, rfl, rfl, rfl⟩, ⟨rfl, rfl, rfl⟩, ⟨rfl, rfl, rfl, rfl⟩⟩
theorem wA_cp {S T : wS} {a : eRow} (hI : iA a) (h : wA T a) : wA (cpW S T) a := by
  obtain ⟨⟨f1, f2, f3⟩, ⟨f4, f5, f6, f7, f8⟩, f9⟩ := cpW_f (S := S) (T := T)
  obtain ⟨⟨a2, a3, a4, a5, a6, a7, a8, a9, a10⟩, ⟨a12, a13, a14⟩, ⟨a15, a16, a17, a18⟩⟩ := cpW_a (S := S) (T := T)
  generalize cpW S T = S' at f1 f2 f3 f4 f5 f6 f7 f8 f9 a2 a3 a4 a5 a6 a7 a8 a9 a10 a12 a13 a14 a15 a16 a17 a18 ⊢
  obtain ⟨hG, hV, hO, hT, hM⟩ := hI
  have hn := hG.1.2.2.2.2
  have h24 := iT_24 hn hT
  have hm := hV.1
  obtain ⟨⟨⟨g1, g2, g3⟩, g4⟩, ⟨v1, v2, v3, v4⟩, ⟨p1, p2, p3⟩, p4⟩ := h
  refine ⟨⟨⟨by rw [f1, f2, f3]; exact g1, fun e he => ?_, fun k hk => ?_⟩, fun k hk p hp => ?_⟩, ⟨by rw [f9]; exact v1, fun w hw => ?_, fun w p hw hp => ?_, fun l hl => ?_⟩, ⟨by rw [f5, f6, f7, f8]; exact p1, fun k hk => ?_, fun l hl => ?_⟩, by rw [f4]; exact p4⟩
  · rw [a2, a3, a7, a8, cpZ_in he, bNz_01 (g2 e he).1 (hG.2.1 e he).1, eCpy_in (by omega), eCpy_in (by omega), eCpy_in (by omega)]
    exact g2 e he
  · rw [a4, a5, a6, cpZ_in (by omega), bNz_01 (g3 k hk).2.2 (hG.2.2.1 k hk).1, eCpy_in (by omega), eCpy_in (by omega)]
    exact g3 k hk
  · have hs := hG.2.2.1 k hk
    rw [a9, a10, eCpy_in (by omega), eCpy_in (by omega)]
    exact g4 k hk p hp
  · rw [a12, eCpy_in (by omega)]
    exact v2 w hw
  · have hs := hV.2 w hw
    rw [a13, eCpy_in (by omega)]
    exact v3 w p hw hp
  · rw [a14, eCpy_in (by omega)]
    exact v4 l hl
  · rw [a15, eCpy_in (by omega)]
    exact p2 k hk
  · rw [a16, a17, a18, eCpy_in (by omega), eCpy_in (by omega)]
    refine ⟨(p3 l hl).1, (p3 l hl).2.1, fun k hk => ?_⟩
    rw [eCpy_in (by omega)]
    exact (p3 l hl).2.2 k hk
/-- rows that agree hold together -/
theorem rg_cp {f h : Nat → Int} {a : eRow} (hg : rg f a) : rg (cpR f h 0 0 964) a := fun i hi => by
  have h1 := cpR_in (f := f) (h := h) (I := 0) (J := 0) (k := 964) (i := i) hi
  rw [Nat.zero_add] at h1
  rw [h1]
  exact hg i hi
