/-! A window's method in any world with the window's twenty cells side by side from a place on. -/
def seqR (b : Nat) : Nat → List Nat
  | 0 => []
  | n + 1 => b :: seqR (b + 1) n
theorem seqR_len : ∀ {n b : Nat}, (seqR b n).length = n
  | 0, _ => rfl
  | n + 1, b => by show (seqR (b + 1) n).length + 1 = n + 1; rw [seqR_len]
theorem seqR_at : ∀ {n b i : Nat}, i < n → (seqR b n)[i]? = some (b + i)
  | 0, _, _, h => by omega
  | n + 1, b, 0, _ => rfl
  | n + 1, b, i + 1, h => by
    show (seqR (b + 1) n)[i]? = _
    rw [seqR_at (by omega)]
    congr 1
    omega
theorem eSet_mid {x y : eC} {l : List eC} : ∀ {pre : List eC}, eSet (pre ++ (x :: l)) pre.length y = pre ++ (y :: l)
  | [] => rfl
  | z :: pre => by show z :: eSet (pre ++ (x :: l)) pre.length y = z :: (pre ++ (y :: l)); rw [eSet_mid]
def allNj : List eC → Bool
  | [] => true
  | c :: l => !jk c && allNj l
theorem tBk_seg {σ : Nat → eV} {α : List Nat} {post : List eC} : ∀ {cs old pre : List eC}, old.length = cs.length → allNj cs = true → tBk σ α (seqR pre.length cs.length) cs (pre ++ (old ++ post)) = pre ++ (cs.map (rC σ α) ++ post)
  | [], [], pre, _, _ => rfl
  | [], _ :: _, _, h, _ => by simp at h
  | _ :: _, [], _, h, _ => by simp at h
  | c :: cs, x :: old, pre, h, hj => by
    have hj1 : jk c = false := by
      have h1 := (Bool.and_eq_true_iff.mp hj).1
      cases hb : jk c with
      | false => rfl
      | true => rw [hb] at h1; cases h1
    have hj2 : allNj cs = true := (Bool.and_eq_true_iff.mp hj).2
    show tBk σ α (seqR (pre.length + 1) cs.length) cs (bif jk c then pre ++ (x :: (old ++ post)) else eSet (pre ++ (x :: (old ++ post))) pre.length (rC σ α c)) = pre ++ (rC σ α c :: (cs.map (rC σ α) ++ post))
    rw [hj1, cond_false, eSet_mid]
    have h2 := tBk_seg (σ := σ) (α := α) (post := post) (cs := cs) (old := old) (pre := pre ++ [rC σ α c]) (by simpa using h) hj2
    rw [List.length_append, List.append_assoc, List.append_assoc] at h2
    exact h2
theorem seg_get {pre mid post : List eC} {i : Nat} (h : i < mid.length) : (pre ++ (mid ++ post))[pre.length + i]? = mid[i]? := by
  rw [List.getElem?_append_right (by omega), Nat.add_sub_cancel_left, List.getElem?_append_left h]
/-- renamed cells are what they rename -/
theorem tV_r {σ : Nat → eV} {α : List Nat} : ∀ {v : eV}, (match v with
    | .inr (.inl (some k)) => k < α.length
    | .inr (.inr (.inr (.inr (.inr k)))) => k < 19
    | _ => True) → tV σ α v (rV σ α v)
  | .inl _, _ => rfl
  | .inr (.inl none), _ => rfl
  | .inr (.inl (some k)), h => ⟨α[k], List.getElem?_eq_getElem h, by show Sum.inr (Sum.inl (eNth α k)) = _; rw [eNth_eq, List.getElem?_eq_getElem h]⟩
  | .inr (.inr (.inl _)), _ => rfl
  | .inr (.inr (.inr (.inl _))), _ => rfl
  | .inr (.inr (.inr (.inr (.inl _)))), _ => rfl
  | .inr (.inr (.inr (.inr (.inr k)))), h => Or.inl ⟨by show (bif Nat.blt k 19 then _ else _) = _; rw [show Nat.blt k 19 = true from (Nat.blt_eq).mpr h]; rfl, h⟩
def okV (n : Nat) : eV → Bool
  | .inr (.inl (some k)) => Nat.blt k n
  | .inr (.inr (.inr (.inr (.inr k)))) => Nat.blt k 19
  | _ => true
theorem tV_ok {σ : Nat → eV} {α : List Nat} {v : eV} (h : okV α.length v = true) : tV σ α v (rV σ α v) := by
  refine tV_r ?_
  match v, h with
  | .inl _, _ => trivial
  | .inr (.inl none), _ => trivial
  | .inr (.inl (some k)), h => exact (Nat.blt_eq).mp h
  | .inr (.inr (.inl _)), _ => trivial
  | .inr (.inr (.inr (.inl _))), _ => trivial
  | .inr (.inr (.inr (.inr (.inl _)))), _ => trivial
  | .inr (.inr (.inr (.inr (.inr k)))), h => exact (Nat.blt_eq).mp h
def okS (n : Nat) : List eV → Bool
  | [] => true
  | v :: l => okV n v && okS n l
theorem tS_ok {σ : Nat → eV} {α : List Nat} : ∀ {l : List eV}, okS α.length l = true → tS σ α l (rS σ α l)
  | [], _ => trivial
  | _ :: _, h => ⟨tV_ok (Bool.and_eq_true_iff.mp h).1, tS_ok (Bool.and_eq_true_iff.mp h).2⟩
def okC (n : Nat) : eC → Bool
  | .inl _ => true
  | .inr (.inl (_, fs)) => okS n fs
  | .inr (.inr _) => false
theorem tC_ok {σ : Nat → eV} {α : List Nat} : ∀ {c : eC}, okC α.length c = true → tC σ α c (rC σ α c)
  | .inl (_, (_, _)), _ => Or.inr rfl
  | .inr (.inl (_, fs)), h => ⟨rS σ α fs, rfl, tS_ok h⟩
  | .inr (.inr _), h => by cases h
def okW (n : Nat) : List eC → Bool
  | [] => true
  | c :: l => okC n c && okW n l
theorem okW_at : ∀ {l : List eC} {n k : Nat} {c : eC}, okW n l = true → l[k]? = some c → okC n c = true
  | [], _, _, _, _, h => by simp at h
  | x :: l, n, 0, c, ho, h => by simp at h; subst h; exact (Bool.and_eq_true_iff.mp ho).1
  | x :: l, n, k + 1, c, ho, h => okW_at (l := l) (k := k) (Bool.and_eq_true_iff.mp ho).2 (by simpa using h)
def okL (n : Nat) : eL → Bool
  | [] => true
  | none :: l => okL n l
  | some v :: l => okV n v && okL n l
theorem tL_ok {σ : Nat → eV} {α : List Nat} : ∀ {l : eL}, okL α.length l = true → tL σ α l (rL σ α l)
  | [], _ => trivial
  | none :: l, h => tL_ok (l := l) h
  | some _ :: l, h => ⟨tV_ok (Bool.and_eq_true_iff.mp h).1, tL_ok (l := l) (Bool.and_eq_true_iff.mp h).2⟩
theorem tW_seg {σ : Nat → eV} {W pre post : List eC} (hok : okW W.length W = true) : tW σ (seqR pre.length W.length) W (pre ++ (W.map (rC σ (seqR pre.length W.length)) ++ post)) := by
  refine ⟨seqR_len, fun k x hk => ?_, fun i j q ci cj h1 h2 h3 h4 h5 h6 => ?_⟩
  · have hkl := (List.getElem?_eq_some_iff.mp hk).1
    refine ⟨pre.length + k, rC σ (seqR pre.length W.length) x, seqR_at hkl, ?_, tC_ok (by rw [seqR_len]; exact okW_at hok hk)⟩
    rw [seg_get (by rw [List.length_map]; exact hkl), List.getElem?_map, hk]
    rfl
  · have hi := (List.getElem?_eq_some_iff.mp h3).1
    have hj := (List.getElem?_eq_some_iff.mp h4).1
    rw [seqR_at hi] at h1
    rw [seqR_at hj] at h2
    have e1 := Option.some.inj h1
    have e2 := Option.some.inj h2
    omega
/-- cells side by side: a run over them alone is a run over them in any world -/
theorem segUse {σ : Nat → eV} {W W1 pre post : List eC} {y x1 x2 : Nat} {as : eL} {d : Nat × Nat} {o : Option eV ⊕ Nat} (h : ev y 0 as [] (W, (0, 0)) = some (o, (W1, (x1, x2)))) (hok : okW W.length W = true) (hl : W1.length = W.length) (hq : noQ W1 = true) (hj : allNj W1 = true) (ha : okL W.length as = true) : ev y 0 (rL σ (seqR pre.length W.length) as) [] (pre ++ (W.map (rC σ (seqR pre.length W.length)) ++ post), d) = some (rO σ (seqR pre.length W.length) o, (pre ++ (W1.map (rC σ (seqR pre.length W.length)) ++ post), (d.1 + x1, d.2 + x2))) := by
  have h2 := xUse (σ := σ) (α := seqR pre.length W.length) (V := pre ++ (W.map (rC σ (seqR pre.length W.length)) ++ post)) (as' := rL σ (seqR pre.length W.length) as) (d := d) h hl hq (tW_seg hok) (tL_ok (by rw [seqR_len]; exact ha))
  rw [h2]
  have h3 := tBk_seg (σ := σ) (α := seqR pre.length W.length) (post := post) (cs := W1) (old := W.map (rC σ (seqR pre.length W.length))) (pre := pre) (by rw [List.length_map, hl]) hj
  rw [hl] at h3
  rw [h3]
theorem wC_r {S : wS} {b : Nat} : (wC S).map (rC (fun _ => eNul) (seqR b 20)) = wCb b S := rfl
theorem wC_ok {S : wS} : okW 20 (wC S) = true ∧ noQ (wC S) = true ∧ allNj (wC S) = true := ⟨rfl, rfl, rfl⟩
/-- a window's method on a window that begins at the place b -/
theorem winUse {S S' : wS} {pre post : List eC} {y b : Nat} {as : eL} {d : Nat × Nat} {o : Option eV ⊕ Nat} (h : ev y 0 as [] (wC S, (0, 0)) = some (o, (wC S', (0, 0)))) (ha : okL 20 as = true) (hb : pre.length = b) : ev y 0 (rL (fun _ => eNul) (seqR b 20) as) [] (pre ++ (wCb b S ++ post), d) = some (rO (fun _ => eNul) (seqR b 20) o, (pre ++ (wCb b S' ++ post), d)) := by
  subst hb
  have h2 := segUse (σ := fun _ => eNul) (pre := pre) (post := post) (d := d) h wC_ok.1 rfl wC_ok.2.1 wC_ok.2.2 ha
  exact h2
theorem winUse0 {S S' : wS} {post : List eC} {y : Nat} {as : eL} {d : Nat × Nat} {o : Option eV ⊕ Nat} (h : ev y 0 as [] (wC S, (0, 0)) = some (o, (wC S', (0, 0)))) (ha : okL 20 as = true) : ev y 0 (rL (fun _ => eNul) (seqR 0 20) as) [] (wC S ++ post, d) = some (rO (fun _ => eNul) (seqR 0 20) o, (wC S' ++ post, d)) := winUse (pre := []) (b := 0) h ha rfl
theorem tst_win {S S' : wS} {c : Nat × Nat} {t : Nat → Int} (h : ev m_W_narrow 0 [some (eR 0)] [] (wC S, (0, 0)) = some (.inl none, (wC S', (0, 0)))) : ev m_W_narrow 0 [some (eR 0)] [] (wC S ++ [eA 0 600 t], c) = some (.inl none, (wC S' ++ [eA 0 600 t], c)) := winUse0 h rfl
theorem tst_win2 {S S' T : wS} {c : Nat × Nat} {x : Int} (h : ev m_W_makeSteps 0 [some (eR 0), some (eI x)] [] (wC S, (0, 0)) = some (.inl (some (eI 5)), (wC S', (0, 0)))) : ev m_W_makeSteps 0 [some (eR 20), some (eI x)] [] (wC T ++ (wCb 20 S ++ []), c) = some (.inl (some (eI 5)), (wC T ++ (wCb 20 S' ++ []), c)) := winUse (pre := wC T) (b := 20) h rfl rfl
