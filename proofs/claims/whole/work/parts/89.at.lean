/-! A run in a small world is a run in any world with the small world's cells at the places α. -/
def okVU (σ : Nat → eV) (n : Nat) : eV → Bool
  | .inr (.inl (some k)) => Nat.blt k n
  | .inr (.inr (.inr (.inr (.inr k)))) => Nat.blt k 19 || Nat.beq (eKn (σ k)) 1
  | _ => true
theorem tV_okU {σ : Nat → eV} {α : List Nat} : ∀ {v : eV}, okVU σ α.length v = true → tV σ α v (rV σ α v)
  | .inl _, _ => rfl
  | .inr (.inl none), _ => rfl
  | .inr (.inl (some k)), h => by
    have h1 : k < α.length := (Nat.blt_eq).mp h
    exact ⟨α[k], List.getElem?_eq_getElem h1, by show Sum.inr (Sum.inl (eNth α k)) = _; rw [eNth_eq, List.getElem?_eq_getElem h1]⟩
  | .inr (.inr (.inl _)), _ => rfl
  | .inr (.inr (.inr (.inl _))), _ => rfl
  | .inr (.inr (.inr (.inr (.inl _)))), _ => rfl
  | .inr (.inr (.inr (.inr (.inr k)))), h => by
    cases hb : Nat.blt k 19 with
    | true => exact Or.inl ⟨by show (bif Nat.blt k 19 then _ else _) = _; rw [hb]; rfl, (Nat.blt_eq).mp hb⟩
    | false =>
      have h1 : (Nat.blt k 19 || Nat.beq (eKn (σ k)) 1) = true := h
      rw [hb, Bool.false_or] at h1
      have e : rV σ α (.inr (.inr (.inr (.inr (.inr k))))) = σ k := by show (bif Nat.blt k 19 then _ else _) = _; rw [hb]; rfl
      refine Or.inr ⟨?_, ?_, e⟩
      · refine Nat.le_of_not_lt (fun h2 => ?_)
        rw [(Nat.blt_eq).mpr h2] at hb
        cases hb
      · rw [e]; exact Nat.eq_of_beq_eq_true h1
def okSU (σ : Nat → eV) (n : Nat) : List eV → Bool
  | [] => true
  | v :: l => okVU σ n v && okSU σ n l
theorem tS_okU {σ : Nat → eV} {α : List Nat} : ∀ {l : List eV}, okSU σ α.length l = true → tS σ α l (rS σ α l)
  | [], _ => trivial
  | _ :: _, h => ⟨tV_okU (Bool.and_eq_true_iff.mp h).1, tS_okU (Bool.and_eq_true_iff.mp h).2⟩
def okCU (σ : Nat → eV) (n : Nat) : eC → Bool
  | .inl _ => true
  | .inr (.inl (_, fs)) => okSU σ n fs
  | .inr (.inr _) => false
theorem tC_okU {σ : Nat → eV} {α : List Nat} : ∀ {c : eC}, okCU σ α.length c = true → tC σ α c (rC σ α c)
  | .inl (_, (_, _)), _ => Or.inr rfl
  | .inr (.inl (_, fs)), h => ⟨rS σ α fs, rfl, tS_okU h⟩
  | .inr (.inr _), h => by cases h
def okWU (σ : Nat → eV) (n : Nat) : List eC → Bool
  | [] => true
  | c :: l => okCU σ n c && okWU σ n l
theorem okWU_at {σ : Nat → eV} : ∀ {l : List eC} {n k : Nat} {c : eC}, okWU σ n l = true → l[k]? = some c → okCU σ n c = true
  | [], _, _, _, _, h => by simp at h
  | x :: l, n, 0, c, ho, h => by simp at h; subst h; exact (Bool.and_eq_true_iff.mp ho).1
  | x :: l, n, k + 1, c, ho, h => okWU_at (l := l) (k := k) (Bool.and_eq_true_iff.mp ho).2 (by simpa using h)
def okLU (σ : Nat → eV) (n : Nat) : eL → Bool
  | [] => true
  | none :: l => okLU σ n l
  | some v :: l => okVU σ n v && okLU σ n l
theorem tL_okU {σ : Nat → eV} {α : List Nat} : ∀ {l : eL}, okLU σ α.length l = true → tL σ α l (rL σ α l)
  | [], _ => trivial
  | none :: l, h => tL_okU (l := l) h
  | some _ :: l, h => ⟨tV_okU (Bool.and_eq_true_iff.mp h).1, tL_okU (l := l) (Bool.and_eq_true_iff.mp h).2⟩
def ninL (a : Nat) : List Nat → Bool
  | [] => true
  | b :: l => !Nat.beq a b && ninL a l
def dstL : List Nat → Bool
  | [] => true
  | a :: l => ninL a l && dstL l
theorem ninL_at {a : Nat} : ∀ {l : List Nat} {j : Nat}, ninL a l = true → l[j]? ≠ some a
  | [], j, _, h => by simp at h
  | b :: l, 0, hn, h => by
    simp at h
    subst h
    have h1 := (Bool.and_eq_true_iff.mp hn).1
    rw [Nat.beq_refl] at h1
    cases h1
  | b :: l, j + 1, hn, h => ninL_at (l := l) (j := j) (Bool.and_eq_true_iff.mp hn).2 (by simpa using h)
theorem dstL_at : ∀ {l : List Nat} {i j a : Nat}, dstL l = true → l[i]? = some a → l[j]? = some a → i = j
  | [], _, _, _, _, h, _ => by simp at h
  | b :: l, 0, 0, _, _, _, _ => rfl
  | b :: l, i + 1, 0, a, hd, h1, h2 => by
    have h2 : b = a := by simpa using h2
    subst h2
    exact absurd (by simpa using h1) (ninL_at (j := i) (Bool.and_eq_true_iff.mp hd).1)
  | b :: l, 0, j + 1, a, hd, h1, h2 => by
    have h1 : b = a := by simpa using h1
    subst h1
    exact absurd (by simpa using h2) (ninL_at (j := j) (Bool.and_eq_true_iff.mp hd).1)
  | b :: l, i + 1, j + 1, a, hd, h1, h2 => congrArg (· + 1) (dstL_at (l := l) (Bool.and_eq_true_iff.mp hd).2 (by simpa using h1) (by simpa using h2))
def atL (V : List eC) : List Nat → List eC → Prop
  | [], [] => True
  | a :: as, c :: cs => eNth V a = some c ∧ atL V as cs
  | _, _ => False
theorem atL_len {V : List eC} : ∀ {as : List Nat} {cs : List eC}, atL V as cs → as.length = cs.length
  | [], [], _ => rfl
  | _ :: as, _ :: cs, h => by rw [List.length_cons, List.length_cons, atL_len h.2]
  | [], _ :: _, h => h.elim
  | _ :: _, [], h => h.elim
theorem atL_at {V : List eC} : ∀ {as : List Nat} {cs : List eC} {k : Nat} {c : eC}, atL V as cs → cs[k]? = some c → ∃ a, as[k]? = some a ∧ V[a]? = some c
  | [], [], _, _, _, h => by simp at h
  | a :: as, x :: cs, 0, c, h, hk => by
    simp at hk
    subst hk
    exact ⟨a, rfl, by rw [← eNth_eq]; exact h.1⟩
  | a :: as, x :: cs, k + 1, c, h, hk => by
    obtain ⟨b, h1, h2⟩ := atL_at (k := k) h.2 (by simpa using hk)
    exact ⟨b, by simpa using h1, h2⟩
  | [], _ :: _, _, _, h, _ => h.elim
  | _ :: _, [], _, _, h, _ => h.elim
theorem atL_of {V : List eC} : ∀ {as : List Nat} {cs : List eC}, as.map (eNth V) = cs.map some → atL V as cs
  | [], [], _ => trivial
  | a :: as, c :: cs, h => by
    rw [List.map_cons, List.map_cons] at h
    injection h with h1 h2
    exact ⟨h1, atL_of h2⟩
  | [], _ :: _, h => by cases h
  | _ :: _, [], h => by cases h
theorem tW_atL {σ : Nat → eV} {α : List Nat} {W V : List eC} (hk : okWU σ α.length W = true) (hd : dstL α = true) (hg : atL V α (W.map (rC σ α))) : tW σ α W V := by
  refine ⟨by rw [atL_len hg, List.length_map], fun k c hc => ?_, fun i j a ci cj h1 h2 _ _ _ _ => dstL_at hd h1 h2⟩
  obtain ⟨b, h1, h2⟩ := atL_at (k := k) (c := rC σ α c) hg (by rw [List.getElem?_map, hc]; rfl)
  exact ⟨b, _, h1, h2, tC_okU (okWU_at hk hc)⟩
theorem xAtL {σ : Nat → eV} {α : List Nat} {W W1 V V' : List eC} {y x1 x2 : Nat} {as as' : eL} {d : Nat × Nat} {o o' : Option eV ⊕ Nat} (h : ev y 0 as [] (W, (0, 0)) = some (o, (W1, (x1, x2)))) (hg : atL V α (W.map (rC σ α))) (hl : W1.length = W.length) (hk : okWU σ α.length W = true) (hq : noQ W1 = true) (hd : dstL α = true) (ha : okLU σ α.length as = true) (has : rL σ α as = as') (ho : rO σ α o = o') (hV : tBk σ α α W1 V = V') : ev y 0 as' [] (V, d) = some (o', (V', (d.1 + x1, d.2 + x2))) := by
  subst has ho hV
  exact xUse h hl hq (tW_atL hk hd hg) (tL_okU ha)
theorem xAt {σ : Nat → eV} {α : List Nat} {W W1 V V' : List eC} {y x1 x2 : Nat} {as as' : eL} {d : Nat × Nat} {o o' : Option eV ⊕ Nat} (h : ev y 0 as [] (W, (0, 0)) = some (o, (W1, (x1, x2)))) (hg : α.map (eNth V) = (W.map (rC σ α)).map some) (hl : W1.length = W.length) (hk : okWU σ α.length W = true) (hq : noQ W1 = true) (hd : dstL α = true) (ha : okLU σ α.length as = true) (has : rL σ α as = as') (ho : rO σ α o = o') (hV : tBk σ α α W1 V = V') : ev y 0 as' [] (V, d) = some (o', (V', (d.1 + x1, d.2 + x2))) := xAtL h (atL_of hg) hl hk hq hd ha has ho hV
/-! The parser's object with its window at 3. -/
def pQ (P : Nat → Int) : eC := eO 3 [eR 1, eR 3, eR 2, eI (P 3), eI (P 4), eI (P 5), eI (P 6), eI (P 7), eI (P 8), eI (P 9), eI (P 10), eI (P 11), eI (P 12), eI (P 13), eI (P 14), eI (P 15), eI (P 16), eI (P 17)]
def σP (k : Nat) : eV := bif Nat.beq k 19 then eR 3 else eSt k
theorem pUp {P P' bY : Nat → Int} {S : wS} {ln : Int} {y : Nat} {as as' : eL} {o o' : Option eV ⊕ Nat} {c : Nat × Nat} (h : ev y 0 as [] ([pO P, eO 2 [eR 2, eI ln, eSt 20], eA 0 600 bY], (0, 0)) = some (o, ([pO P', eO 2 [eR 2, eI ln, eSt 20], eA 0 600 bY], (0, 0)))) (ha : okLU σP 3 as = true) (has : rL σP [0, 1, 2] as = as') (ho : rO σP [0, 1, 2] o = o') : ev y 0 as' [] ([pQ P, eO 2 [eR 2, eI ln, eSt 20], eA 0 600 bY] ++ wCb 3 S, c) = some (o', ([pQ P', eO 2 [eR 2, eI ln, eSt 20], eA 0 600 bY] ++ wCb 3 S, c)) :=
  xAt (σ := σP) (α := [0, 1, 2]) h rfl rfl rfl rfl rfl ha has ho rfl
theorem atL_app {V : List eC} : ∀ {as bs : List Nat} {cs ds : List eC}, atL V as cs → atL V bs ds → atL V (as ++ bs) (cs ++ ds)
  | [], _, [], _, _, h => h
  | _ :: _, _, _ :: _, _, h, h2 => ⟨h.1, atL_app h.2 h2⟩
  | [], _, _ :: _, _, h, _ => h.elim
  | _ :: _, _, [], _, h, _ => h.elim
theorem eNth_mid {x : eC} {l : List eC} : ∀ {pre : List eC}, eNth (pre ++ (x :: l)) pre.length = some x
  | [] => rfl
  | _ :: pre => eNth_mid (pre := pre)
theorem atL_seg {post : List eC} : ∀ {mid pre : List eC}, atL (pre ++ (mid ++ post)) (seqR pre.length mid.length) mid
  | [], _ => trivial
  | c :: mid, pre => by
    refine ⟨eNth_mid, ?_⟩
    have h := atL_seg (post := post) (mid := mid) (pre := pre ++ [c])
    rw [List.length_append, List.append_assoc] at h
    exact h
theorem tBk_app {σ : Nat → eV} {α : List Nat} : ∀ {as bs : List Nat} {cs ds V : List eC}, as.length = cs.length → tBk σ α (as ++ bs) (cs ++ ds) V = tBk σ α bs ds (tBk σ α as cs V)
  | [], _, [], _, _, _ => rfl
  | a :: as, bs, c :: cs, ds, V, h => by
    show tBk σ α (as ++ bs) (cs ++ ds) _ = tBk σ α bs ds (tBk σ α as cs _)
    exact tBk_app (by simpa using h)
  | [], _, _ :: _, _, _, h => by simp at h
  | _ :: _, _, [], _, _, h => by simp at h
/-- cells side by side and some others: a run over them alone is a run over them in any world -/
theorem xSegE {σ : Nat → eV} {W W1 E E1 pre post V' : List eC} {β : List Nat} {y x1 x2 : Nat} {as as' : eL} {d : Nat × Nat} {o o' : Option eV ⊕ Nat} (α : List Nat) (hα : seqR pre.length W.length ++ β = α) (h : ev y 0 as [] (W ++ E, (0, 0)) = some (o, (W1 ++ E1, (x1, x2)))) (hg : atL (pre ++ (W.map (rC σ α) ++ post)) β (E.map (rC σ α))) (hl : W1.length = W.length) (hl2 : E1.length = E.length) (hk : okWU σ α.length (W ++ E) = true) (hq : noQ (W1 ++ E1) = true) (hj : allNj W1 = true) (hd : dstL α = true) {N : Nat} (hN : N = α.length) (ha : okLU σ N as = true) (has : rL σ α as = as') (ho : rO σ α o = o') (hV : tBk σ α β E1 (pre ++ (W1.map (rC σ α) ++ post)) = V') : ev y 0 as' [] (pre ++ (W.map (rC σ α) ++ post), d) = some (o', (V', (d.1 + x1, d.2 + x2))) := by
  subst hV
  have hlw : (W.map (rC σ α)).length = W.length := List.length_map ..
  have hs := atL_seg (post := post) (mid := W.map (rC σ α)) (pre := pre)
  rw [hlw] at hs
  refine xAtL (σ := σ) (α := α) h ?_ (by rw [List.length_append, List.length_append, hl, hl2]) hk hq hd (by rw [← hN]; exact ha) has ho ?_
  · rw [List.map_append, ← hα]
    rw [← hα] at hs hg
    exact atL_app hs hg
  · have hb := tBk_seg (σ := σ) (α := α) (post := post) (cs := W1) (old := W.map (rC σ α)) (pre := pre) (by rw [hlw, hl]) hj
    rw [hl] at hb
    have e : tBk σ α α (W1 ++ E1) (pre ++ (W.map (rC σ α) ++ post)) = tBk σ α (seqR pre.length W.length ++ β) (W1 ++ E1) (pre ++ (W.map (rC σ α) ++ post)) := by rw [hα]
    rw [e, tBk_app (by rw [seqR_len, hl]), hb]
/-- a window's method on the parser's window -/
theorem pWin {P bY : Nat → Int} {S S' : wS} {ln : Int} {y : Nat} {as as' : eL} {o o' : Option eV ⊕ Nat} {c : Nat × Nat} (h : ev y 0 as [] (wC S, (0, 0)) = some (o, (wC S', (0, 0)))) (ha : okL 20 as = true) (has : rL (fun _ => eNul) (seqR 3 20) as = as') (ho : rO (fun _ => eNul) (seqR 3 20) o = o') : ev y 0 as' [] ([pQ P, eO 2 [eR 2, eI ln, eSt 20], eA 0 600 bY] ++ wCb 3 S, c) = some (o', ([pQ P, eO 2 [eR 2, eI ln, eSt 20], eA 0 600 bY] ++ wCb 3 S', c)) := by
  subst has ho
  exact winUse (pre := [pQ P, eO 2 [eR 2, eI ln, eSt 20], eA 0 600 bY]) (post := []) (b := 3) h ha rfl
/-- a method on the parser's window and the text -/
theorem pWinT {P bY : Nat → Int} {S S' : wS} {ln : Int} {y : Nat} {as as' : eL} {o o' : Option eV ⊕ Nat} {c : Nat × Nat} (h : ev y 0 as [] (wC S ++ [eA 0 600 bY], (0, 0)) = some (o, (wC S' ++ [eA 0 600 bY], (0, 0)))) (ha : okLU eSt 21 as = true) (has : rL eSt (seqR 3 20 ++ [2]) as = as') (ho : rO eSt (seqR 3 20 ++ [2]) o = o') : ev y 0 as' [] ([pQ P, eO 2 [eR 2, eI ln, eSt 20], eA 0 600 bY] ++ wCb 3 S, c) = some (o', ([pQ P, eO 2 [eR 2, eI ln, eSt 20], eA 0 600 bY] ++ wCb 3 S', c)) := by
  have h2 := xSegE (σ := eSt) (pre := [pQ P, eO 2 [eR 2, eI ln, eSt 20], eA 0 600 bY]) (post := []) (β := [2]) (N := 21) (d := c) (seqR 3 20 ++ [2]) rfl h ⟨rfl, trivial⟩ rfl rfl rfl rfl rfl rfl rfl ha has ho rfl
  exact h2
