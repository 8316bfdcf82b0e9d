/-! A world of which only some cells are known: rows for a walk, and runs of the small worlds in it. -/
/-- V' is V but for the cells at α -/
def sb (V V' : List eC) (α : List Nat) : Prop := V'.length = V.length ∧ ∀ k, ninL k α = true → eNth V' k = eNth V k
theorem sb_rf {V : List eC} {α : List Nat} : sb V V α := ⟨rfl, fun _ _ => rfl⟩
theorem eNth_set {V : List eC} {k j : Nat} {c : eC} : eNth (eSet V k c) j = if k = j then (if k < V.length then some c else none) else eNth V j := by
  rw [eNth_eq, eNth_eq, eSet_nth]
theorem eNth_lt {V : List eC} {k : Nat} {c : eC} (h : eNth V k = some c) : k < V.length := by
  rw [eNth_eq] at h
  exact (List.getElem?_eq_some_iff.mp h).1
theorem sb_set {V : List eC} {k : Nat} {c c0 : eC} (h : eNth V k = some c0) : sb V (eSet V k c) [k] ∧ eNth (eSet V k c) k = some c := by
  refine ⟨⟨eSet_len _ _ _, fun j hj => ?_⟩, ?_⟩
  · rw [eNth_set, if_neg (fun e => ?_)]
    subst e
    have h1 := (Bool.and_eq_true_iff.mp hj).1
    rw [Nat.beq_refl] at h1
    cases h1
  · rw [eNth_set, if_pos rfl, if_pos (eNth_lt h)]
theorem tBk_sb {σ : Nat → eV} {α : List Nat} : ∀ {as : List Nat} {cs V : List eC}, sb V (tBk σ α as cs V) as
  | [], [], _ => sb_rf
  | [], _ :: _, _ => sb_rf
  | _ :: _, [], _ => sb_rf
  | a :: as, c :: cs, V => by
    have ih := fun V => tBk_sb (σ := σ) (α := α) (as := as) (cs := cs) (V := V)
    refine ⟨tBk_len, fun k hk => ?_⟩
    have hk1 : Nat.beq k a = false := by
      have h1 := (Bool.and_eq_true_iff.mp hk).1
      cases hb : Nat.beq k a with
      | false => rfl
      | true => rw [hb] at h1; cases h1
    have hk2 := (Bool.and_eq_true_iff.mp hk).2
    show eNth (tBk σ α as cs (bif jk c then V else eSet V a (rC σ α c))) k = eNth V k
    rw [(ih _).2 k hk2]
    cases jk c with
    | true => rfl
    | false =>
      rw [cond_false, eNth_set, if_neg (fun e => ?_)]
      subst e
      rw [Nat.beq_refl] at hk1
      cases hk1
theorem tBk_atL {σ : Nat → eV} {α : List Nat} : ∀ {as : List Nat} {cs ds V : List eC}, dstL as = true → allNj cs = true → cs.length = as.length → atL V as ds → atL (tBk σ α as cs V) as (cs.map (rC σ α))
  | [], [], _, _, _, _, _, _ => trivial
  | a :: as, c :: cs, d :: ds, V, hd, hj, hl, h => by
    obtain ⟨hd1, hd2⟩ := Bool.and_eq_true_iff.mp hd
    obtain ⟨hj1, hj2⟩ := Bool.and_eq_true_iff.mp hj
    have hjc : jk c = false := by
      cases hb : jk c with
      | false => rfl
      | true => rw [hb] at hj1; cases hj1
    have e : tBk σ α (a :: as) (c :: cs) V = tBk σ α as cs (eSet V a (rC σ α c)) := by
      show tBk σ α as cs (bif jk c then V else eSet V a (rC σ α c)) = _
      rw [hjc, cond_false]
    rw [e]
    obtain ⟨s1, s2⟩ := sb_set (c := rC σ α c) h.1
    have hne : ∀ {as : List Nat} {ds : List eC}, ninL a as = true → atL V as ds → atL (eSet V a (rC σ α c)) as ds := by
      intro as
      induction as with
      | nil => intro ds _ h; cases ds with
        | nil => trivial
        | cons _ _ => exact h.elim
      | cons b as ih => intro ds hn h; cases ds with
        | nil => exact h.elim
        | cons d ds =>
          obtain ⟨n1, n2⟩ := Bool.and_eq_true_iff.mp hn
          refine ⟨?_, ih n2 h.2⟩
          rw [s1.2 b ?_]
          · exact h.1
          · show (!Nat.beq b a && true) = true
            rw [Bool.and_true]
            cases hb : Nat.beq b a with
            | false => rfl
            | true =>
              have := Nat.eq_of_beq_eq_true hb
              subst this
              rw [Nat.beq_refl] at n1
              cases n1
    refine ⟨?_, tBk_atL (ds := ds) hd2 hj2 (by simpa using hl) (hne hd1 h.2)⟩
    rw [(tBk_sb (σ := σ) (α := α) (as := as) (cs := cs)).2 a hd1]
    exact s2
  | [], _ :: _, _, _, _, _, hl, _ => by simp at hl
  | _ :: _, [], _, _, _, _, hl, _ => by simp at hl
  | _ :: _, _ :: _, [], _, _, _, _, h => h.elim
theorem tBk_same {σ : Nat → eV} {α : List Nat} : ∀ {as : List Nat} {cs V : List eC}, atL V as (cs.map (rC σ α)) → tBk σ α as cs V = V
  | [], [], _, _ => rfl
  | a :: as, c :: cs, V, h => by
    show tBk σ α as cs (bif jk c then V else eSet V a (rC σ α c)) = V
    have e : (bif jk c then V else eSet V a (rC σ α c)) = V := by
      cases jk c with
      | true => rfl
      | false => exact eSet_same h.1
    rw [e]
    exact tBk_same h.2
  | [], _ :: _, _, h => h.elim
  | _ :: _, [], _, h => h.elim
/-- a run of a small world in V -/
theorem xAtR {σ : Nat → eV} {α : List Nat} {W W1 V : List eC} {y x1 x2 : Nat} {as as' : eL} {d : Nat × Nat} {o o' : Option eV ⊕ Nat} (h : ev y 0 as [] (W, (0, 0)) = some (o, (W1, (x1, x2)))) (hg : atL V α (W.map (rC σ α))) (hl : W1.length = W.length) (hk : okWU σ α.length W = true) (hq : noQ W1 = true) (hj : allNj W1 = true) (hd : dstL α = true) (ha : okLU σ α.length as = true) (has : rL σ α as = as') (ho : rO σ α o = o') : ∃ V', ev y 0 as' [] (V, d) = some (o', (V', (d.1 + x1, d.2 + x2))) ∧ atL V' α (W1.map (rC σ α)) ∧ sb V V' α :=
  ⟨_, xAtL h hg hl hk hq hd ha has ho rfl, tBk_atL hd hj (by rw [hl, atL_len hg, List.length_map]) hg, tBk_sb⟩
/-- a run that only reads -/
theorem xAtV {σ : Nat → eV} {α : List Nat} {W V : List eC} {y x1 x2 : Nat} {as as' : eL} {d : Nat × Nat} {o o' : Option eV ⊕ Nat} (h : ev y 0 as [] (W, (0, 0)) = some (o, (W, (x1, x2)))) (hg : atL V α (W.map (rC σ α))) (hk : okWU σ α.length W = true) (hq : noQ W = true) (hd : dstL α = true) (ha : okLU σ α.length as = true) (has : rL σ α as = as') (ho : rO σ α o = o') : ev y 0 as' [] (V, d) = some (o', (V, (d.1 + x1, d.2 + x2))) :=
  xAtL h hg rfl hk hq hd ha has ho (tBk_same hg)
theorem atL_sb {V V' : List eC} {α : List Nat} (s : sb V V' α) : ∀ {as : List Nat} {cs : List eC}, (∀ k ∈ as, ninL k α = true) → atL V as cs → atL V' as cs
  | [], [], _, _ => trivial
  | a :: as, c :: cs, hn, h => ⟨(s.2 a (hn a List.mem_cons_self)).trans h.1, atL_sb s (fun k hk => hn k (List.mem_cons_of_mem _ hk)) h.2⟩
  | [], _ :: _, _, h => h.elim
  | _ :: _, [], _, h => h.elim
section
variable {N M pc M2 pc2 y : Nat} {ls ls2 as : eL} {st st2 : List eV} {w : eW} {V : List eC} {d : Nat × Nat} {R : eRes}
theorem xGetV {a b r : Nat} {fs : List eV} {v : eV} (h : evS N M pc ls st w = eGet ev M2 pc2 a b ls2 (eR r :: st2) (V, d)) (hV : eNth V r = some (eO a fs)) (hb : eNth fs b = some v) (hg : ev M2 (pc2 + 3) ls2 (v :: st2) (V, d) = R) : ev M pc ls st w = R := by
  refine xSeg h ?_
  unfold eGet
  dsimp only
  rw [hV]
  dsimp only
  rw [Nat.beq_refl, cond_true, hb]
  exact hg
theorem xPutV {a b r : Nat} {fs : List eV} {v : eV} {z : Bool} (h : evS N M pc ls st w = ePutf ev M2 pc2 a b z ls2 (v :: eR r :: st2) (V, d)) (hV : eNth V r = some (eO a fs)) (hb : Nat.blt b (eLen fs) = true) (hz : eKind z v = true) (hg : ∀ V2, sb V V2 [r] → eNth V2 r = some (eO a (eSet fs b v)) → ev M2 (pc2 + 3) ls2 st2 (V2, d) = R) : ev M pc ls st w = R := by
  refine xSeg h ?_
  unfold ePutf
  dsimp only
  rw [hV]
  dsimp only
  rw [Nat.beq_refl, hb, hz, Bool.true_and, Bool.true_and, cond_true]
  obtain ⟨s1, s2⟩ := sb_set (c := eO a (eSet fs b v)) hV
  exact hg _ s1 s2
theorem xLdV {t n r k : Nat} {f : Nat → Int} {i : Int} {ok : Nat → Bool} {mk : Int → eV} (h : evS N M pc ls st w = eALd ev M2 pc2 ls2 (eI i :: eR r :: st2) (V, d) ok mk) (hV : eNth V r = some (eA t n f)) (ht : ok t = true) (hi : wr i = (k : Int)) (hk : k < n) (hg : ev M2 (pc2 + 1) ls2 (mk (f k) :: st2) (V, d) = R) : ev M pc ls st w = R := by
  refine xSeg h ?_
  unfold eALd
  dsimp only
  rw [hV]
  dsimp only
  rw [ht, cond_true, if_pos ⟨by omega, by omega⟩, hi, Int.toNat_natCast]
  exact hg
theorem xStV {t n r k : Nat} {f : Nat → Int} {i v : Int} {ok : Nat → Bool} (h : evS N M pc ls st w = eASt ev M2 pc2 ls2 i v r st2 (V, d) ok) (hV : eNth V r = some (eA t n f)) (ht : ok t = true) (hi : wr i = (k : Int)) (hk : k < n) (hg : ∀ V2, sb V V2 [r] → eNth V2 r = some (eA t n (eUp f k v)) → ev M2 (pc2 + 1) ls2 st2 (V2, d) = R) : ev M pc ls st w = R := by
  refine xSeg h ?_
  unfold eASt
  dsimp only
  rw [hV]
  dsimp only
  rw [ht, cond_true, if_pos ⟨by omega, by omega⟩, hi, Int.toNat_natCast]
  obtain ⟨s1, s2⟩ := sb_set (c := eA t n (eUp f k v)) hV
  exact hg _ s1 s2
theorem xQLdV {n r k : Nat} {f : Nat → Option Nat} {i : Int} (h : evS N M pc ls st w = eQLd ev M2 pc2 ls2 (eI i :: eR r :: st2) (V, d)) (hV : eNth V r = some (eQ n f)) (hi : wr i = (k : Int)) (hk : k < n) (hg : ev M2 (pc2 + 1) ls2 (.inr (.inl (f k)) :: st2) (V, d) = R) : ev M pc ls st w = R := by
  refine xSeg h ?_
  unfold eQLd
  dsimp only
  rw [hV]
  dsimp only
  rw [if_pos ⟨by omega, by omega⟩, hi, Int.toNat_natCast]
  exact hg
theorem xQStV {n r k v cy : Nat} {f : Nat → Option Nat} {fs : List eV} {i : Int} (h : evS N M pc ls st w = eQSt ev cy M2 pc2 ls2 (eR v :: eI i :: eR r :: st2) (V, d)) (hV : eNth V r = some (eQ n f)) (hv : eNth V v = some (eO cy fs)) (hi : wr i = (k : Int)) (hk : k < n) (hg : ∀ V2, sb V V2 [r] → eNth V2 r = some (eQ n (eUp f k (some v))) → ev M2 (pc2 + 1) ls2 st2 (V2, d) = R) : ev M pc ls st w = R := by
  refine xSeg h ?_
  unfold eQSt
  dsimp only
  rw [hV]
  dsimp only
  rw [hv]
  dsimp only
  rw [Nat.beq_refl, cond_true, if_pos ⟨by omega, by omega⟩, hi, Int.toNat_natCast]
  obtain ⟨s1, s2⟩ := sb_set (c := eQ n (eUp f k (some v))) hV
  exact hg _ s1 s2
/-- a call of an object's method -/
theorem xCallA {r n cy dM dy : Nat} {fs : List eV} {bs : List eV} {st9 : List eV} {o : Option eV ⊕ Nat} {w3 : eW} {cat : Nat → Option (Option (Nat × Nat))} (h : evS N M pc ls st w = eCallW ev ev dM dy cy M2 pc2 y n ls2 st9 (V, d) cat) (hT : eTR n st9 [] = some (eR r :: bs, st2)) (hV : eNth V r = some (eO cy fs)) (hc : (eAll1 (eR r :: bs) && (Nat.ble (eCats st2) 8 && Nat.blt dy dM)) = true) (hq : ev y 0 (eArgs (eR r :: bs)) [] (V, d) = some (o, w3)) (hg : eBackW ev M2 pc2 ls2 st2 cat (some (o, w3)) = R) : ev M pc ls st w = R := by
  refine xSeg h ?_
  unfold eCallW
  rw [hT]
  dsimp only
  rw [hV]
  dsimp only
  have hc' : (eAll1 bs && (Nat.ble (eCats st2) 8 && Nat.blt dy dM)) = true := hc
  rw [Nat.beq_refl, Bool.true_and, hc', cond_true, hq]
  exact hg
theorem xCallB {r n cy dM dy : Nat} {fs : List eV} {bs : List eV} {st9 : List eV} {o : Option eV ⊕ Nat} {w3 : eW} (h : evS N M pc ls st w = eCallI ev ev dM dy cy M2 pc2 y n ls2 st9 (V, d)) (hT : eTR n st9 [] = some (eR r :: bs, st2)) (hV : eNth V r = some (eO cy fs)) (hc : (eAll1 (eR r :: bs) && (Nat.ble (eCats st2) 8 && Nat.blt dy dM)) = true) (hq : ev y 0 (eArgs (eR r :: bs)) [] (V, d) = some (o, w3)) (hg : eBack0 ev M2 pc2 ls2 st2 (some (o, w3)) = R) : ev M pc ls st w = R := by
  refine xSeg h ?_
  unfold eCallI
  rw [hT]
  dsimp only
  rw [hV]
  dsimp only
  have hc' : (eAll1 bs && (Nat.ble (eCats st2) 8 && Nat.blt dy dM)) = true := hc
  rw [Nat.beq_refl, Bool.true_and, hc', cond_true, hq]
  exact hg
end
