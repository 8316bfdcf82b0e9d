/-! A run in a small world is a run in any world that holds it: places renamed by α; a place of the small world may be unknown (a cell of the kind 77, a String constant from 19 on). -/
def tV (σ : Nat → eV) (α : List Nat) : eV → eV → Prop
  | .inl x, v => v = .inl x
  | .inr (.inl none), v => v = .inr (.inl none)
  | .inr (.inl (some k)), v => ∃ a, α[k]? = some a ∧ v = .inr (.inl (some a))
  | .inr (.inr (.inl x)), v => v = .inr (.inr (.inl x))
  | .inr (.inr (.inr (.inl x))), v => v = .inr (.inr (.inr (.inl x)))
  | .inr (.inr (.inr (.inr (.inl x)))), v => v = .inr (.inr (.inr (.inr (.inl x))))
  | .inr (.inr (.inr (.inr (.inr k)))), v => (v = .inr (.inr (.inr (.inr (.inr k)))) ∧ k < 19) ∨ (19 ≤ k ∧ (eKn v = 1 ∧ v = σ k))
def tS (σ : Nat → eV) (α : List Nat) : List eV → List eV → Prop
  | [], [] => True
  | v :: st, x :: xs => tV σ α v x ∧ tS σ α st xs
  | _, _ => False
def tL (σ : Nat → eV) (α : List Nat) : eL → eL → Prop
  | [], [] => True
  | none :: l, none :: l' => tL σ α l l'
  | some v :: l, some v' :: l' => tV σ α v v' ∧ tL σ α l l'
  | _, _ => False
def jk : eC → Bool
  | .inl (t, _) => Nat.beq t 77
  | _ => false
def tC (σ : Nat → eV) (α : List Nat) : eC → eC → Prop
  | .inl (t, (n, f)), c => t = 77 ∨ c = .inl (t, (n, f))
  | .inr (.inl (k, fs)), c => ∃ gs, c = .inr (.inl (k, gs)) ∧ tS σ α fs gs
  | .inr (.inr (n, f)), c => ∃ g : Nat → Option Nat, c = .inr (.inr (n, g)) ∧ ∀ i, i < n → tV σ α (.inr (.inl (f i))) (.inr (.inl (g i)))
def tW (σ : Nat → eV) (α : List Nat) (W V : List eC) : Prop := α.length = W.length ∧ (∀ (k : Nat) (c : eC), W[k]? = some c → ∃ k' c', α[k]? = some k' ∧ V[k']? = some c' ∧ tC σ α c c') ∧
  ∀ (i j a : Nat) (ci cj : eC), α[i]? = some a → α[j]? = some a → W[i]? = some ci → W[j]? = some cj → jk ci = false → jk cj = false → i = j
def tO (σ : Nat → eV) (α : List Nat) : Option eV ⊕ Nat → Option eV ⊕ Nat → Prop
  | .inl none, o => o = .inl none
  | .inl (some v), o => ∃ v', o = .inl (some v') ∧ tV σ α v v'
  | .inr k, o => o = .inr k
/-- from one pair of worlds to the next -/
def tM (σ : Nat → eV) (α : List Nat) (W V : List eC) (c d : Nat × Nat) (β : List Nat) (W1 V1 : List eC) (c1 d1 : Nat × Nat) : Prop :=
  tW σ (α ++ β) W1 V1 ∧ (c1.1 + d.1 = d1.1 + c.1 ∧ c1.2 + d.2 = d1.2 + c.2) ∧ V1.length = V.length + β.length ∧ (∀ b ∈ β, V.length ≤ b) ∧
  (∀ k' : Nat, k' < V.length → (∀ (i : Nat) (cc : eC), W[i]? = some cc → jk cc = false → α[i]? ≠ some k') → V1[k']? = V[k']?) ∧ ∀ (i : Nat) (cc : eC), W[i]? = some cc → ∃ cc1, W1[i]? = some cc1 ∧ jk cc1 = jk cc
def tP (σ : Nat → eV) (α : List Nat) (W V : List eC) (c d : Nat × Nat) (r : (Option eV ⊕ Nat) × eW) (x : eRes) : Prop := ∃ β V' d' o', x = some (o', (V', d')) ∧ tO σ (α ++ β) r.1 o' ∧ tM σ α W V c d β r.2.1 V' r.2.2 d'
def tGood (σ : Nat → eV) (f : eFn) : Prop := ∀ M pc ls st W c r, f M pc ls st (W, c) = some r → ∀ α V d ls' st', tW σ α W V → tL σ α ls ls' → tS σ α st st' → tP σ α W V c d r (f M pc ls' st' (V, d))
variable {σ : Nat → eV}
theorem tV_mono {α β : List Nat} : ∀ {v x : eV}, tV σ α v x → tV σ (α ++ β) v x
  | .inl _, _, h => h
  | .inr (.inl none), _, h => h
  | .inr (.inl (some _)), _, ⟨a, h1, h2⟩ => ⟨a, by rw [List.getElem?_append_left (List.getElem?_eq_some_iff.mp h1).1]; exact h1, h2⟩
  | .inr (.inr (.inl _)), _, h => h
  | .inr (.inr (.inr (.inl _))), _, h => h
  | .inr (.inr (.inr (.inr (.inl _)))), _, h => h
  | .inr (.inr (.inr (.inr (.inr _)))), _, h => h
theorem tS_mono {α β : List Nat} : ∀ {st xs : List eV}, tS σ α st xs → tS σ (α ++ β) st xs
  | [], [], _ => trivial
  | _ :: _, _ :: _, h => ⟨tV_mono h.1, tS_mono h.2⟩
  | [], _ :: _, h => h.elim
  | _ :: _, [], h => h.elim
theorem tL_mono {α β : List Nat} : ∀ {l l' : eL}, tL σ α l l' → tL σ (α ++ β) l l'
  | [], [], _ => trivial
  | none :: l, none :: l', h => tL_mono (l := l) (l' := l') h
  | some _ :: l, some _ :: l', h => ⟨tV_mono h.1, tL_mono (l := l) (l' := l') h.2⟩
  | [], _ :: _, h => h.elim
  | none :: _, [], h => h.elim
  | some _ :: _, [], h => h.elim
  | none :: _, some _ :: _, h => h.elim
  | some _ :: _, none :: _, h => h.elim
theorem tC_mono {α β : List Nat} : ∀ {c c' : eC}, tC σ α c c' → tC σ (α ++ β) c c'
  | .inl (_, (_, _)), _, h => h
  | .inr (.inl (_, _)), _, ⟨gs, h1, h2⟩ => ⟨gs, h1, tS_mono h2⟩
  | .inr (.inr (_, _)), _, ⟨g, h1, h2⟩ => ⟨g, h1, fun i hi => tV_mono (h2 i hi)⟩
theorem tV_kn {α : List Nat} : ∀ {v x : eV}, tV σ α v x → eKn x = eKn v
  | .inl _, _, h => by cases h; rfl
  | .inr (.inl none), _, h => by cases h; rfl
  | .inr (.inl (some _)), _, ⟨a, _, h⟩ => by cases h; rfl
  | .inr (.inr (.inl _)), _, h => by cases h; rfl
  | .inr (.inr (.inr (.inl _))), _, h => by cases h; rfl
  | .inr (.inr (.inr (.inr (.inl _)))), _, h => by cases h; rfl
  | .inr (.inr (.inr (.inr (.inr _)))), _, h => by
    rcases h with ⟨h, _⟩ | ⟨_, h, _⟩
    · cases h; rfl
    · exact h
theorem eCat_kn : ∀ v : eV, eCat v = if eKn v = 2 ∨ eKn v = 4 then 2 else 1
  | .inl _ => rfl
  | .inr (.inl none) => rfl
  | .inr (.inl (some _)) => rfl
  | .inr (.inr (.inl _)) => rfl
  | .inr (.inr (.inr (.inl _))) => rfl
  | .inr (.inr (.inr (.inr (.inl _)))) => rfl
  | .inr (.inr (.inr (.inr (.inr _)))) => rfl
theorem tV_cat {α : List Nat} {v x : eV} (h : tV σ α v x) : eCat x = eCat v := by rw [eCat_kn, eCat_kn, tV_kn h]
theorem tS_inv {α : List Nat} {v : eV} {st xs : List eV} (h : tS σ α (v :: st) xs) : ∃ x ys, xs = x :: ys ∧ tV σ α v x ∧ tS σ α st ys := by
  cases xs with
  | nil => exact h.elim
  | cons x ys => exact ⟨x, ys, rfl, h.1, h.2⟩
theorem tS_nil {α : List Nat} {xs : List eV} (h : tS σ α [] xs) : xs = [] := by
  cases xs with
  | nil => rfl
  | cons => exact h.elim
theorem tS_cats {α : List Nat} : ∀ {st xs : List eV}, tS σ α st xs → eCats xs = eCats st
  | [], [], _ => rfl
  | _ :: _, _ :: _, h => by simp [eCats, tV_cat h.1, tS_cats h.2]
  | [], _ :: _, h => h.elim
  | _ :: _, [], h => h.elim
theorem tS_all1 {α : List Nat} : ∀ {st xs : List eV}, tS σ α st xs → eAll1 xs = eAll1 st
  | [], [], _ => rfl
  | _ :: _, _ :: _, h => by simp [eAll1, tV_cat h.1, tS_all1 h.2]
  | [], _ :: _, h => h.elim
  | _ :: _, [], h => h.elim
theorem tS_len {α : List Nat} : ∀ {st xs : List eV}, tS σ α st xs → eLen xs = eLen st
  | [], [], _ => rfl
  | _ :: _, _ :: _, h => by simp [eLen, tS_len h.2]
  | [], _ :: _, h => h.elim
  | _ :: _, [], h => h.elim
theorem tS_nth {α : List Nat} : ∀ {st xs : List eV} {k : Nat} {v : eV}, tS σ α st xs → eNth st k = some v → ∃ x, eNth xs k = some x ∧ tV σ α v x
  | [], _, _, _, _, h => by simp [eNth] at h
  | _ :: _, [], _, _, hs, _ => hs.elim
  | u :: _, x :: _, 0, v, hs, h => by
    simp only [eNth, Option.some.injEq] at h
    subst h
    exact ⟨x, rfl, hs.1⟩
  | _ :: st, _ :: xs, k + 1, v, hs, h => by
    obtain ⟨x, h1, h2⟩ := tS_nth (st := st) (xs := xs) (k := k) hs.2 h
    exact ⟨x, h1, h2⟩
theorem tS_set {α : List Nat} : ∀ {st xs : List eV} {k : Nat} {v x : eV}, tS σ α st xs → tV σ α v x → tS σ α (eSet st k v) (eSet xs k x)
  | [], [], _, _, _, _, _ => trivial
  | [], _ :: _, _, _, _, hs, _ => hs.elim
  | _ :: _, [], _, _, _, hs, _ => hs.elim
  | _ :: _, _ :: _, 0, _, _, hs, h => ⟨h, hs.2⟩
  | _ :: _, _ :: _, _ + 1, _, _, hs, h => ⟨hs.1, tS_set hs.2 h⟩
theorem tL_nth {α : List Nat} : ∀ {l l' : eL} {k : Nat} {v : eV}, tL σ α l l' → eNth l k = some (some v) → ∃ v', eNth l' k = some (some v') ∧ tV σ α v v'
  | [], _, _, _, _, h => by simp [eNth] at h
  | none :: _, none :: _, 0, _, _, h => by simp [eNth] at h
  | some u :: _, some u' :: _, 0, v, hl, h => by
    simp only [eNth, Option.some.injEq] at h
    subst h
    exact ⟨u', rfl, hl.1⟩
  | none :: l, none :: l', k + 1, v, hl, h => tL_nth (l := l) (l' := l') (k := k) hl h
  | some _ :: l, some _ :: l', k + 1, v, hl, h => tL_nth (l := l) (l' := l') (k := k) hl.2 h
  | none :: _, [], _, _, hl, _ => hl.elim
  | some _ :: _, [], _, _, hl, _ => hl.elim
  | none :: _, some _ :: _, _, _, hl, _ => hl.elim
  | some _ :: _, none :: _, _, _, hl, _ => hl.elim
theorem tL_put {α : List Nat} : ∀ {l l' : eL} {k : Nat} {o o' : Option eV}, tL σ α l l' → tL σ α [o] [o'] → tL σ α (ePut l k o) (ePut l' k o')
  | [], [], 0, _, _, _, h => h
  | [], [], k + 1, o, o', hl, h => tL_put (l := []) (l' := []) (k := k) hl h
  | none :: _, none :: _, 0, none, none, hl, _ => hl
  | none :: _, none :: _, 0, some _, some _, hl, h => ⟨h.1, hl⟩
  | some _ :: _, some _ :: _, 0, none, none, hl, _ => hl.2
  | some _ :: _, some _ :: _, 0, some _, some _, hl, h => ⟨h.1, hl.2⟩
  | none :: l, none :: l', k + 1, _, _, hl, h => tL_put (l := l) (l' := l') (k := k) hl h
  | some _ :: l, some _ :: l', k + 1, _, _, hl, h => ⟨hl.1, tL_put (l := l) (l' := l') (k := k) hl.2 h⟩
  | _, _, _, none, some _, _, h => h.elim
  | _, _, _, some _, none, _, h => h.elim
  | [], _ :: _, _, _, _, hl, _ => hl.elim
  | none :: _, [], _, _, _, hl, _ => hl.elim
  | some _ :: _, [], _, _, _, hl, _ => hl.elim
  | none :: _, some _ :: _, _, _, _, hl, _ => hl.elim
  | some _ :: _, none :: _, _, _, _, hl, _ => hl.elim
theorem tL_take {α : List Nat} : ∀ {k : Nat} {l l' : eL}, tL σ α l l' → tL σ α (eTake k l) (eTake k l')
  | 0, _, _, _ => trivial
  | _ + 1, [], [], _ => trivial
  | k + 1, none :: _, none :: _, hl => tL_take (k := k) hl
  | k + 1, some _ :: _, some _ :: _, hl => ⟨hl.1, tL_take (k := k) hl.2⟩
  | _ + 1, [], _ :: _, hl => hl.elim
  | _ + 1, none :: _, [], hl => hl.elim
  | _ + 1, some _ :: _, [], hl => hl.elim
  | _ + 1, none :: _, some _ :: _, hl => hl.elim
  | _ + 1, some _ :: _, none :: _, hl => hl.elim
theorem tL_nthN {α : List Nat} : ∀ {l l' : eL} {k : Nat}, tL σ α l l' → (∀ v, eNth l k ≠ some (some v)) → ∀ v, eNth l' k ≠ some (some v)
  | [], [], _, _, _, _ => by simp [eNth]
  | none :: _, none :: _, 0, _, _, _ => by simp [eNth]
  | some u :: _, some _ :: _, 0, _, h, _ => absurd rfl (h u)
  | none :: l, none :: l', k + 1, hl, h, v => tL_nthN (l := l) (l' := l') (k := k) hl h v
  | some _ :: l, some _ :: l', k + 1, hl, h, v => tL_nthN (l := l) (l' := l') (k := k) hl.2 h v
  | [], _ :: _, _, hl, _, _ => hl.elim
  | none :: _, [], _, hl, _, _ => hl.elim
  | some _ :: _, [], _, hl, _, _ => hl.elim
  | none :: _, some _ :: _, _, hl, _, _ => hl.elim
  | some _ :: _, none :: _, _, hl, _, _ => hl.elim
theorem tL_below {α : List Nat} {l l' : eL} {i : Nat} (hl : tL σ α l l') (h : eBelow l i = true) : eBelow l' i = true := by
  cases i with
  | zero => rfl
  | succ k =>
    unfold eBelow at h ⊢
    dsimp only at h ⊢
    split at h
    · rename_i v hv
      obtain ⟨v', h1, h2⟩ := tL_nth hl hv
      rw [h1]
      dsimp only
      rw [tV_cat h2]
      exact h
    · rename_i hn
      have := tL_nthN hl (fun v hv => hn v hv)
      split
      · rename_i v hv
        exact absurd hv (this v)
      · rfl
theorem tL_args {α : List Nat} : ∀ {as as' : List eV}, tS σ α as as' → tL σ α (eArgs as) (eArgs as')
  | [], [], _ => trivial
  | _ :: _, _ :: _, h => ⟨h.1, tL_args h.2⟩
  | [], _ :: _, h => h.elim
  | _ :: _, [], h => h.elim
theorem tS_TR {α : List Nat} : ∀ {n : Nat} {st acc st' acc' as rest : List eV}, tS σ α st st' → tS σ α acc acc' → eTR n st acc = some (as, rest) → ∃ as' rest', eTR n st' acc' = some (as', rest') ∧ tS σ α as as' ∧ tS σ α rest rest'
  | 0, st, acc, st', acc', as, rest, hs, ha, h => by
    simp only [eTR, Option.some.injEq, Prod.mk.injEq] at h
    obtain ⟨rfl, rfl⟩ := h
    exact ⟨acc', st', rfl, ha, hs⟩
  | n + 1, [], _, _, _, _, _, _, _, h => by cases h
  | n + 1, x :: st, acc, xs, acc', as, rest, hs, ha, h => by
    obtain ⟨x', st', rfl, h1, h2⟩ := tS_inv hs
    exact tS_TR (n := n) (st := st) (acc := x :: acc) h2 ⟨h1, ha⟩ h
theorem tW_get {α : List Nat} {W V : List eC} (h : tW σ α W V) {r : Nat} {c : eC} (hc : eNth W r = some c) : ∃ k' c', α[r]? = some k' ∧ eNth V k' = some c' ∧ tC σ α c c' := by
  rw [eNth_eq] at hc
  obtain ⟨k', c', h1, h2, h3⟩ := h.2.1 r c hc
  exact ⟨k', c', h1, by rw [eNth_eq]; exact h2, h3⟩
theorem eSet_nth {β : Type} (l : List β) (k j : Nat) (v : β) : (eSet l k v)[j]? = if k = j then (if k < l.length then some v else none) else l[j]? := by
  rw [eSet_eq, List.getElem?_set]
theorem tM_refl {α : List Nat} {W V : List eC} {c d : Nat × Nat} (h : tW σ α W V) : tM σ α W V c d [] W V c d :=
  ⟨by rw [List.append_nil]; exact h, ⟨Nat.add_comm _ _, Nat.add_comm _ _⟩, rfl, fun _ h => (by cases h), fun _ _ _ => rfl, fun i cc h => ⟨cc, h, rfl⟩⟩
theorem tM_set {α : List Nat} {W V : List eC} {c d : Nat × Nat} (h : tW σ α W V) {k k' : Nat} {c0 c1 c2 : eC} (hc0 : eNth W k = some c0) (hk : α[k]? = some k') (hj0 : jk c0 = false) (hj1 : jk c1 = false) (hC : tC σ α c1 c2) : tM σ α W V c d [] (eSet W k c1) (eSet V k' c2) c d := by
  rw [eNth_eq] at hc0
  have hkl : k < W.length := (List.getElem?_eq_some_iff.mp hc0).1
  obtain ⟨k2, c', e1, e2, -⟩ := h.2.1 k c0 hc0
  cases hk.symm.trans e1
  have hkl' : k' < V.length := (List.getElem?_eq_some_iff.mp e2).1
  have hjk : ∀ (i : Nat) (ci : eC), (eSet W k c1)[i]? = some ci → ∃ c9, W[i]? = some c9 ∧ jk c9 = jk ci := by
    intro i ci hi
    rw [eSet_nth] at hi
    split at hi
    · rename_i hki
      subst hki
      try rw [if_pos hkl] at hi
      cases hi
      exact ⟨c0, hc0, by rw [hj0, hj1]⟩
    · exact ⟨ci, hi, rfl⟩
  refine ⟨?_, ⟨Nat.add_comm _ _, Nat.add_comm _ _⟩, by rw [eSet_eq]; simp, fun _ h => (by cases h), fun j hj hn => ?_, fun i cc hi => ?_⟩
  · rw [List.append_nil]
    refine ⟨by rw [eSet_eq, List.length_set]; exact h.1, fun i ci hi => ?_, fun i j a ci cj h1 h2 h3 h4 h5 h6 => ?_⟩
    · have hi0 := hi
      rw [eSet_nth] at hi
      split at hi
      · rename_i hki
        subst hki
        try rw [if_pos hkl] at hi
        cases hi
        exact ⟨k', c2, hk, by rw [eSet_nth, if_pos rfl, if_pos hkl'], hC⟩
      · rename_i hki
        obtain ⟨i', ci', g1, g2, g3⟩ := h.2.1 i ci hi
        by_cases hii : k' = i'
        · subst hii
          refine ⟨k', c2, g1, by rw [eSet_nth, if_pos rfl, if_pos hkl'], ?_⟩
          cases hjc : jk ci with
          | false => exact absurd (h.2.2 k i k' c0 ci hk g1 hc0 hi hj0 hjc) hki
          | true =>
            match ci, hjc with
            | .inl (t, (n, f)), hjc => exact Or.inl (Nat.eq_of_beq_eq_true hjc)
            | .inr (.inl _), hjc => cases hjc
            | .inr (.inr _), hjc => cases hjc
        · exact ⟨i', ci', g1, by rw [eSet_nth, if_neg hii]; exact g2, g3⟩
    · obtain ⟨x1, y1, z1⟩ := hjk i ci h3
      obtain ⟨x2, y2, z2⟩ := hjk j cj h4
      exact h.2.2 i j a x1 x2 h1 h2 y1 y2 (z1.trans h5) (z2.trans h6)
  · rw [eSet_nth, if_neg]
    intro e
    subst e
    exact hn k c0 hc0 hj0 hk
  · by_cases hki : k = i
    · subst hki
      cases hc0.symm.trans hi
      exact ⟨c1, by rw [eSet_nth, if_pos rfl, if_pos hkl], by rw [hj0, hj1]⟩
    · exact ⟨cc, by rw [eSet_nth, if_neg hki]; exact hi, rfl⟩
theorem tM_push {α : List Nat} {W V : List eC} {c d : Nat × Nat} (h : tW σ α W V) {c1 c2 : eC} {m n : Nat} (hC : tC σ (α ++ [V.length]) c1 c2) : tM σ α W V c d [V.length] (W ++ [c1]) (V ++ [c2]) (c.1 + m, c.2 + n) (d.1 + m, d.2 + n) := by
  have hlt : ∀ (i a : Nat), α[i]? = some a → i < W.length := fun i a hi => by rw [← h.1]; exact (List.getElem?_eq_some_iff.mp hi).1
  have hin : ∀ (i a : Nat) (c9 : eC), α[i]? = some a → W[i]? = some c9 → a < V.length := fun i a c9 hi hc => by
    obtain ⟨i', c', g1, g2, -⟩ := h.2.1 i c9 hc
    cases hi.symm.trans g1
    exact (List.getElem?_eq_some_iff.mp g2).1
  have hnew : ∀ (i a : Nat) (ci : eC), (α ++ [V.length])[i]? = some a → (W ++ [c1])[i]? = some ci → (α[i]? = some a ∧ W[i]? = some ci ∧ a < V.length) ∨ (i = W.length ∧ a = V.length) := by
    intro i a ci h1 h2
    by_cases hi : i < W.length
    · rw [List.getElem?_append_left (by rw [h.1]; exact hi)] at h1
      rw [List.getElem?_append_left hi] at h2
      exact Or.inl ⟨h1, h2, hin i a ci h1 h2⟩
    · have h3 := (List.getElem?_eq_some_iff.mp h2).1
      simp at h3
      have h4 : i = W.length := by omega
      subst h4
      rw [← h.1, List.getElem?_append_right (Nat.le_refl _), Nat.sub_self] at h1
      cases h1
      exact Or.inr ⟨rfl, rfl⟩
  refine ⟨⟨by simp [h.1], fun i ci hi => ?_, fun i j a ci cj h1 h2 h3 h4 h5 h6 => ?_⟩, ⟨by dsimp only; omega, by dsimp only; omega⟩, by simp, fun b hb => by simp at hb; omega, fun k hk _ => by rw [List.getElem?_append_left hk], fun i cc hi => ⟨cc, by rw [List.getElem?_append_left (List.getElem?_eq_some_iff.mp hi).1]; exact hi, rfl⟩⟩
  · by_cases hil : i < W.length
    · rw [List.getElem?_append_left hil] at hi
      obtain ⟨i', ci', g1, g2, g3⟩ := h.2.1 i ci hi
      exact ⟨i', ci', by rw [List.getElem?_append_left (by rw [h.1]; exact hil)]; exact g1, by rw [List.getElem?_append_left (List.getElem?_eq_some_iff.mp g2).1]; exact g2, tC_mono g3⟩
    · have h3 := (List.getElem?_eq_some_iff.mp hi).1
      simp at h3
      have h4 : i = W.length := by omega
      subst h4
      rw [List.getElem?_append_right (Nat.le_refl _), Nat.sub_self] at hi
      cases hi
      refine ⟨V.length, c2, ?_, ?_, hC⟩
      · rw [← h.1, List.getElem?_append_right (Nat.le_refl _), Nat.sub_self]; rfl
      · rw [List.getElem?_append_right (Nat.le_refl _), Nat.sub_self]; rfl
  · rcases hnew i a ci h1 h3 with ⟨a1, a2, a3⟩ | ⟨a1, a2⟩
    · rcases hnew j a cj h2 h4 with ⟨b1, b2, b3⟩ | ⟨b1, b2⟩
      · exact h.2.2 i j a ci cj a1 b1 a2 b2 h5 h6
      · omega
    · rcases hnew j a cj h2 h4 with ⟨b1, b2, b3⟩ | ⟨b1, b2⟩
      · omega
      · omega
theorem tM_trans {α β β2 : List Nat} {W V W1 V1 W2 V2 : List eC} {c d c1 d1 c2 d2 : Nat × Nat} (h0 : tW σ α W V) (h : tM σ α W V c d β W1 V1 c1 d1) (h' : tM σ (α ++ β) W1 V1 c1 d1 β2 W2 V2 c2 d2) : tM σ α W V c d (β ++ β2) W2 V2 c2 d2 := by
  obtain ⟨a1, ⟨a2, a3⟩, a4, a5, a6, a7⟩ := h
  obtain ⟨b1, ⟨b2, b3⟩, b4, b5, b6, b7⟩ := h'
  refine ⟨by rw [← List.append_assoc]; exact b1, ⟨by omega, by omega⟩, by rw [List.length_append]; omega, fun b hb => ?_, fun k hk hn => ?_, fun i cc hi => ?_⟩
  · rcases List.mem_append.mp hb with hb | hb
    · exact a5 b hb
    · have := b5 b hb; omega
  · rw [b6 k (by omega) (fun i cc hi hj he => ?_), a6 k hk hn]
    by_cases hil : i < α.length
    · rw [List.getElem?_append_left hil] at he
      have hiW : i < W.length := by rw [← h0.1]; exact hil
      obtain ⟨cc1, g1, g2⟩ := a7 i W[i] (List.getElem?_eq_getElem hiW)
      cases hi.symm.trans g1
      exact hn i W[i] (List.getElem?_eq_getElem hiW) (by rw [← g2]; exact hj) he
    · rw [List.getElem?_append_right (by omega)] at he
      have := a5 k (List.mem_of_getElem? he)
      omega
  · obtain ⟨cc1, g1, g2⟩ := a7 i cc hi
    obtain ⟨cc2, g3, g4⟩ := b7 i cc1 g1
    exact ⟨cc2, g3, g4.trans g2⟩
theorem tP_of {α β : List Nat} {W V W1 V1 : List eC} {c d c1 d1 : Nat × Nat} {r : (Option eV ⊕ Nat) × eW} {x : eRes} (h0 : tW σ α W V) (h : tM σ α W V c d β W1 V1 c1 d1) (h' : tP σ (α ++ β) W1 V1 c1 d1 r x) : tP σ α W V c d r x := by
  obtain ⟨β2, V', d', o', e1, e2, e3⟩ := h'
  exact ⟨β ++ β2, V', d', o', e1, by rw [← List.append_assoc]; exact e2, tM_trans h0 h e3⟩
