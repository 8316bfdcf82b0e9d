/-! What a run in the small world says of a run in another, in numbers: places renamed, all else as it was. -/
def rV (σ : Nat → eV) (α : List Nat) : eV → eV
  | .inl x => .inl x
  | .inr (.inl none) => .inr (.inl none)
  | .inr (.inl (some k)) => .inr (.inl (eNth α k))
  | .inr (.inr (.inl x)) => .inr (.inr (.inl x))
  | .inr (.inr (.inr (.inl x))) => .inr (.inr (.inr (.inl x)))
  | .inr (.inr (.inr (.inr (.inl x)))) => .inr (.inr (.inr (.inr (.inl x))))
  | .inr (.inr (.inr (.inr (.inr k)))) => bif Nat.blt k 19 then .inr (.inr (.inr (.inr (.inr k)))) else σ k
def rS (σ : Nat → eV) (α : List Nat) : List eV → List eV
  | [] => []
  | v :: l => rV σ α v :: rS σ α l
def rL (σ : Nat → eV) (α : List Nat) : eL → eL
  | [] => []
  | none :: l => none :: rL σ α l
  | some v :: l => some (rV σ α v) :: rL σ α l
def rC (σ : Nat → eV) (α : List Nat) : eC → eC
  | .inl x => .inl x
  | .inr (.inl (k, fs)) => .inr (.inl (k, rS σ α fs))
  | .inr (.inr x) => .inr (.inr x)
def rO (σ : Nat → eV) (α : List Nat) : Option eV ⊕ Nat → Option eV ⊕ Nat
  | .inl none => .inl none
  | .inl (some v) => .inl (some (rV σ α v))
  | .inr k => .inr k
def tBk (σ : Nat → eV) (α : List Nat) : List Nat → List eC → List eC → List eC
  | a :: as, c :: cs, V => tBk σ α as cs (bif jk c then V else eSet V a (rC σ α c))
  | _, _, V => V
def noQ : List eC → Bool
  | [] => true
  | .inr (.inr _) :: _ => false
  | _ :: l => noQ l
variable {σ : Nat → eV}
theorem rV_of {α : List Nat} : ∀ {v x : eV}, tV σ α v x → x = rV σ α v
  | .inl _, _, h => h
  | .inr (.inl none), _, h => h
  | .inr (.inl (some k)), _, ⟨a, h1, h2⟩ => by
    rw [h2]
    show (Sum.inr (.inl (some a)) : eV) = .inr (.inl (eNth α k))
    rw [eNth_eq, h1]
  | .inr (.inr (.inl _)), _, h => h
  | .inr (.inr (.inr (.inl _))), _, h => h
  | .inr (.inr (.inr (.inr (.inl _)))), _, h => h
  | .inr (.inr (.inr (.inr (.inr k)))), _, h => by
    rename_i x
    show x = bif Nat.blt k 19 then .inr (.inr (.inr (.inr (.inr k)))) else σ k
    rcases h with ⟨h, hk⟩ | ⟨hk, -, h⟩
    · rw [h, show Nat.blt k 19 = true from (Nat.blt_eq).mpr hk]; rfl
    · have hb : Nat.blt k 19 = false := by
        cases hb : Nat.blt k 19 with
        | false => rfl
        | true => exact absurd ((Nat.blt_eq).mp hb) (by omega)
      rw [h, hb]; rfl
theorem rS_of {α : List Nat} : ∀ {l x : List eV}, tS σ α l x → x = rS σ α l
  | [], [], _ => rfl
  | _ :: _, _ :: _, h => by unfold rS; rw [rV_of h.1, rS_of h.2]
  | [], _ :: _, h => h.elim
  | _ :: _, [], h => h.elim
theorem rO_of {α : List Nat} : ∀ {v x : Option eV ⊕ Nat}, tO σ α v x → x = rO σ α v
  | .inl none, _, h => h
  | .inl (some _), _, ⟨_, h1, h2⟩ => by rw [h1, rV_of h2]; rfl
  | .inr _, _, h => h
theorem rC_of {α : List Nat} : ∀ {c x : eC}, noQ [c] = true → jk c = false → tC σ α c x → x = rC σ α c
  | .inl (t, (n, f)), _, _, hj, h => by
    rcases h with h | h
    · subst h; cases hj
    · exact h
  | .inr (.inl (k, fs)), _, _, _, ⟨gs, h1, h2⟩ => by rw [h1, rS_of h2]; rfl
  | .inr (.inr _), _, h, _, _ => by cases h
theorem eSet_len {β : Type} (l : List β) (k : Nat) (v : β) : (eSet l k v).length = l.length := by rw [eSet_eq, List.length_set]
theorem noQ_at : ∀ {l : List eC} {k : Nat} {c : eC}, noQ l = true → l[k]? = some c → noQ [c] = true
  | [], _, _, _, h => by simp at h
  | .inl x :: l, 0, c, _, h => by simp at h; subst h; rfl
  | .inr (.inl x) :: l, 0, c, _, h => by simp at h; subst h; rfl
  | .inr (.inr x) :: l, k, c, hn, _ => by cases hn
  | .inl x :: l, k + 1, c, hn, h => noQ_at (l := l) (k := k) hn (by simpa using h)
  | .inr (.inl x) :: l, k + 1, c, hn, h => noQ_at (l := l) (k := k) hn (by simpa using h)
theorem tBk_len {α : List Nat} : ∀ {as : List Nat} {cs V : List eC}, (tBk σ α as cs V).length = V.length
  | [], [], _ => rfl
  | [], _ :: _, _ => rfl
  | _ :: _, [], _ => rfl
  | a :: as, c :: cs, V => by
    unfold tBk
    rw [tBk_len]
    cases jk c
    · exact eSet_len _ _ _
    · rfl
/-- what stands at a place afterwards -/
theorem tBk_at {α : List Nat} {V1 : List eC} (k' : Nat) : ∀ {as : List Nat} {cs V : List eC}, as.length = cs.length →
    (∀ (i : Nat) (c : eC), as[i]? = some k' → cs[i]? = some c → jk c = false → V1[k']? = some (rC σ α c)) → k' < V.length →
    ((∀ (i : Nat) (c : eC), as[i]? = some k' → cs[i]? = some c → jk c = true) → V1[k']? = V[k']?) →
    (tBk σ α as cs V)[k']? = V1[k']?
  | [], [], V, _, _, _, h => (h (fun i c hi => by simp at hi)).symm
  | [], _ :: _, V, hl, _, _, h => by simp at hl
  | _ :: _, [], V, hl, _, _, h => by simp at hl
  | a :: as, c :: cs, V, hl, hh, hk, h => by
    unfold tBk
    have hl' : as.length = cs.length := by simpa using hl
    have hh' : ∀ (i : Nat) (c : eC), as[i]? = some k' → cs[i]? = some c → jk c = false → V1[k']? = some (rC σ α c) := fun i c h1 h2 h3 => hh (i + 1) c (by simpa using h1) (by simpa using h2) h3
    cases hj : jk c with
    | true =>
      rw [cond_true]
      refine tBk_at k' hl' hh' hk (fun h1 => h (fun i c2 h2 h3 => ?_))
      cases i with
      | zero => simp at h3; subst h3; exact hj
      | succ i => exact h1 i c2 (by simpa using h2) (by simpa using h3)
    | false =>
      rw [cond_false]
      refine tBk_at k' hl' hh' (by rw [eSet_len]; exact hk) (fun h1 => ?_)
      rw [eSet_nth]
      by_cases ha : a = k'
      · subst ha
        rw [if_pos rfl, if_pos hk]
        exact hh 0 c (by simp) (by simp) hj
      · rw [if_neg ha]
        refine h (fun i c2 h2 h3 => ?_)
        cases i with
        | zero => simp at h2; exact absurd h2 ha
        | succ i => exact h1 i c2 (by simpa using h2) (by simpa using h3)
theorem xUse {α : List Nat} {W W1 V : List eC} {y x1 x2 : Nat} {as as' : eL} {d : Nat × Nat} {o : Option eV ⊕ Nat} (h : ev y 0 as [] (W, (0, 0)) = some (o, (W1, (x1, x2)))) (hl1 : W1.length = W.length) (hq : noQ W1 = true) (hw : tW σ α W V) (hl : tL σ α as as') : ev y 0 as' [] (V, d) = some (rO σ α o, (tBk σ α α W1 V, (d.1 + x1, d.2 + x2))) := by
  obtain ⟨β, V', d', o', h1, h2, ⟨h3, h4, h5, h6, h7, h8⟩⟩ := tEv (σ := σ) y 0 as [] W (0, 0) _ h α V d as' [] hw hl trivial
  have hβ : β = [] := by
    have := h3.1
    rw [List.length_append, hl1, hw.1] at this
    exact List.length_eq_zero_iff.mp (by omega)
  subst hβ
  rw [List.append_nil] at h3 h2
  have hd : d' = (d.1 + x1, d.2 + x2) := by
    obtain ⟨p1, p2⟩ := d'
    have e1 := h4.1
    have e2 := h4.2
    dsimp only at e1 e2
    rw [Prod.mk.injEq]
    exact ⟨by omega, by omega⟩
  have hl2 : V'.length = V.length := by simpa using h5
  rw [h1, hd, rO_of h2]
  have hV : V' = tBk σ α α W1 V := by
    apply List.ext_getElem?
    intro k'
    by_cases hk : k' < V.length
    · refine (tBk_at (V1 := V') k' h3.1 (fun i c g1 g2 g3 => ?_) hk (fun g => ?_)).symm
      · obtain ⟨k2, c2, e1, e2, e3⟩ := h3.2.1 i c g2
        cases e1.symm.trans g1
        rw [e2, rC_of (noQ_at hq g2) g3 e3]
      · refine h7 k' hk (fun i cc g1 g2 g3 => ?_)
        obtain ⟨cc1, e1, e2⟩ := h8 i cc g1
        have := g i cc1 g3 e1
        rw [e2, g2] at this
        cases this
    · rw [List.getElem?_eq_none (by omega), List.getElem?_eq_none (by rw [tBk_len]; omega)]
  rw [hV]
