/-! The pure machine and the JVM: which values, cells, worlds answer each other. -/
abbrev eE : Type := va_G × ((ClassId × (ClassId × (ClassId × (ClassId × ClassId)))) × ((Nat × (Nat × (Nat → Int32))) × ((Nat → Nat) × (Nat → Nat))))
abbrev eTs (E : eE) : List (ClassId × FieldType) := [(E.2.1.1, .int), (E.2.1.2.1, .boolean), (E.2.1.2.2.1, .byte), (E.2.1.2.2.2.1, .long), (E.2.1.2.2.2.2, .object "ShopCross$Window")]
def vR (E : eE) (α : List Nat) : eV → Value → Prop
  | .inl x, v => v = .int (Int32.ofInt x)
  | .inr (.inl none), v => v = .null
  | .inr (.inl (some 0)), v => v = .ref E.2.2.1.1
  | .inr (.inl (some (k + 1))), v => ∃ a, α[k]? = some a ∧ v = .ref a
  | .inr (.inr (.inl x)), v => v = .long (Int64.ofInt x)
  | .inr (.inr (.inr (.inl x))), v => v = .float x
  | .inr (.inr (.inr (.inr (.inl x)))), v => v = .double x
  | .inr (.inr (.inr (.inr (.inr k)))), v => v = .ref (E.2.2.2.1 k)
def sR (E : eE) (α : List Nat) : List eV → List Value → Prop
  | [], [] => True
  | v :: st, x :: xs => vR E α v x ∧ sR E α st xs
  | _, _ => False
def lR (E : eE) (α : List Nat) (nL : Nat) (ls : eL) (lsm : Array Slot) : Prop := lsm.size = nL ∧ lv_wf lsm ∧ ∀ i v, eNth ls i = some (some v) → ∃ x, lsm[i]? = some (.val x) ∧ vR E α v x
def cR (E : eE) (α : List Nat) : eC → va_E → Prop
  | .inl (t, (n, f)), e => (t = 3 ∧ e = .inl (E.2.1.2.2.2.1, n, .inr (.inl (fun i => Int64.ofInt (f i))))) ∨ (∃ cA ty, t < 3 ∧ (eTs E)[t]? = some (cA, ty) ∧ e = .inl (cA, n, .inl (fun i => Int32.ofInt (f i))) ∧ (t = 1 → ∀ i, fits .boolean (.int (Int32.ofInt (f i))) = true))
  | .inr (.inl (c, fs)), e => ∃ vs, e = .inr (c, vs) ∧ sR E α fs vs ∧ c < 8 ∧ eLen fs = eN c
  | .inr (.inr (n, f)), e => ∃ g : Nat → Option Nat, e = .inl (E.2.1.2.2.2.2, n, .inr (.inr (.inr (.inr g)))) ∧ ∀ i, i < n → vR E α (.inr (.inl (f i))) (va_rf (g i))
def eScr (E : eE) : eC := .inl (9, (E.2.2.1.2.1, fun j => (E.2.2.1.2.2 j).toInt))
def wR (E : eE) (α : List Nat) (w : List eC) (ws : va_W) : Prop := ∃ w', w = eScr E :: w' ∧ α.length = w'.length ∧ ws.length = w'.length ∧ ∀ (k : Nat) (c : eC), w'[k]? = some c → ∃ (a : Nat) (e : va_E), α[k]? = some a ∧ ws[k]? = some (a, e) ∧ cR E α c e
theorem eNth_eq {β : Type} : ∀ (l : List β) (n : Nat), eNth l n = l[n]?
  | [], n => by simp [eNth]
  | x :: l, 0 => by simp [eNth]
  | x :: l, n + 1 => by simp [eNth, eNth_eq l n]
theorem eSet_eq {β : Type} : ∀ (l : List β) (n : Nat) (v : β), eSet l n v = l.set n v
  | [], n, v => by simp [eSet]
  | x :: l, 0, v => by simp [eSet]
  | x :: l, n + 1, v => by simp [eSet, eSet_eq l n v]
theorem eLen_eq {β : Type} : ∀ (l : List β), eLen l = l.length
  | [] => rfl
  | x :: l => by simp [eLen, eLen_eq l]
theorem eTake_nth {β : Type} : ∀ (n : Nat) (l : List β) (i : Nat) (v : β), eNth (eTake n l) i = some v → eNth l i = some v
  | 0, l, i, v, h => by simp [eTake, eNth] at h
  | n + 1, [], i, v, h => by simp [eTake, eNth] at h
  | n + 1, x :: l, 0, v, h => by simpa [eTake, eNth] using h
  | n + 1, x :: l, i + 1, v, h => by simp only [eTake, eNth] at h ⊢; exact eTake_nth n l i v h
theorem vR_mono {E : eE} {α β : List Nat} : ∀ {v : eV} {x : Value}, vR E α v x → vR E (α ++ β) v x
  | .inl _, _, h => h
  | .inr (.inl none), _, h => h
  | .inr (.inl (some 0)), _, h => h
  | .inr (.inl (some (k + 1))), _, h => by
    obtain ⟨a, h1, h2⟩ := h
    exact ⟨a, by rw [List.getElem?_append_left (List.getElem?_eq_some_iff.mp h1).1]; exact h1, h2⟩
  | .inr (.inr (.inl _)), _, h => h
  | .inr (.inr (.inr (.inl _))), _, h => h
  | .inr (.inr (.inr (.inr (.inl _)))), _, h => h
  | .inr (.inr (.inr (.inr (.inr _)))), _, h => h
theorem sR_mono {E : eE} {α β : List Nat} : ∀ {st : List eV} {xs : List Value}, sR E α st xs → sR E (α ++ β) st xs
  | [], [], _ => trivial
  | _ :: _, _ :: _, h => ⟨vR_mono h.1, sR_mono h.2⟩
  | [], _ :: _, h => h.elim
  | _ :: _, [], h => h.elim
theorem lR_mono {E : eE} {α β : List Nat} {nL : Nat} {ls : eL} {lsm : Array Slot} (h : lR E α nL ls lsm) : lR E (α ++ β) nL ls lsm := ⟨h.1, h.2.1, fun i v hi => by obtain ⟨x, h1, h2⟩ := h.2.2 i v hi; exact ⟨x, h1, vR_mono h2⟩⟩
theorem cR_mono {E : eE} {α β : List Nat} : ∀ {c : eC} {e : va_E}, cR E α c e → cR E (α ++ β) c e
  | .inl (_, (_, _)), _, h => h
  | .inr (.inl (_, _)), _, ⟨vs, h1, h2, h3⟩ => ⟨vs, h1, sR_mono h2, h3⟩
  | .inr (.inr (_, _)), _, ⟨g, h1, h2⟩ => ⟨g, h1, fun i hi => vR_mono (h2 i hi)⟩
theorem wR_get {E : eE} {α : List Nat} {w : List eC} {ws : va_W} (h : wR E α w ws) {r : Nat} {c : eC} (hc : eNth w r = some c) : (r = 0 ∧ c = eScr E) ∨ ∃ k a e, r = k + 1 ∧ α[k]? = some a ∧ ws[k]? = some (a, e) ∧ cR E α c e := by
  obtain ⟨w', rfl, h1, h2, h3⟩ := h
  cases r with
  | zero => exact Or.inl ⟨rfl, by simpa [eNth] using hc.symm⟩
  | succ k =>
    have hc : eNth w' k = some c := hc
    rw [eNth_eq] at hc
    obtain ⟨a, e, q1, q2, q3⟩ := h3 k c hc
    exact Or.inr ⟨k, a, e, rfl, q1, q2, q3⟩
theorem wR_set {E : eE} {α : List Nat} {w : List eC} {ws : va_W} (h : wR E α w ws) {k a : Nat} {c : eC} {e : va_E} (ha : α[k]? = some a) (hc : cR E α c e) : wR E α (eSet w (k + 1) c) (ws.set k (a, e)) := by
  obtain ⟨w', rfl, h1, h2, h3⟩ := h
  refine ⟨eSet w' k c, rfl, by rw [eSet_eq]; simpa using h1, by rw [eSet_eq]; simpa using h2, fun j c' hj => ?_⟩
  rw [eSet_eq, List.getElem?_set] at hj
  by_cases hkj : k = j
  · subst hkj
    rw [if_pos rfl] at hj
    split at hj
    · cases hj
      rename_i hlt
      refine ⟨a, e, ha, ?_, hc⟩
      rw [List.getElem?_set, if_pos rfl, if_pos (by omega)]
    · cases hj
  · rw [if_neg hkj] at hj
    obtain ⟨a', e', q1, q2, q3⟩ := h3 j c' hj
    exact ⟨a', e', q1, by rw [List.getElem?_set, if_neg hkj]; exact q2, q3⟩
theorem wR_push {E : eE} {α : List Nat} {w : List eC} {ws : va_W} (h : wR E α w ws) {q : Nat} {c : eC} {e : va_E} (hc : cR E (α ++ [q]) c e) : wR E (α ++ [q]) (w ++ [c]) (ws ++ [(q, e)]) := by
  obtain ⟨w', rfl, h1, h2, h3⟩ := h
  refine ⟨w' ++ [c], rfl, by simp [h1], by simp [h2], fun j c' hj => ?_⟩
  by_cases hl : j < w'.length
  · rw [List.getElem?_append_left hl] at hj
    obtain ⟨a', e', q1, q2, q3⟩ := h3 j c' hj
    exact ⟨a', e', by rw [List.getElem?_append_left (by omega)]; exact q1, by rw [List.getElem?_append_left (by omega)]; exact q2, cR_mono q3⟩
  · have hj2 : j = w'.length := by
      have := (List.getElem?_eq_some_iff.mp hj).1
      simp at this
      omega
    subst hj2
    rw [List.getElem?_append_right (Nat.le_refl _), Nat.sub_self] at hj
    cases hj
    refine ⟨q, e, ?_, ?_, hc⟩
    · rw [List.getElem?_append_right (by omega), h1, Nat.sub_self]; rfl
    · rw [List.getElem?_append_right (by omega), h2, Nat.sub_self]; rfl
theorem wR_len {E : eE} {α : List Nat} {w : List eC} {ws : va_W} (h : wR E α w ws) : eLen w = α.length + 1 := by
  obtain ⟨w', rfl, h1, h2, h3⟩ := h
  rw [eLen_eq]; simp [h1]
theorem vR_new {E : eE} {α : List Nat} {w : List eC} {ws : va_W} (h : wR E α w ws) (q : Nat) : vR E (α ++ [q]) (.inr (.inl (some (eLen w)))) (.ref q) := by
  rw [wR_len h]
  exact ⟨q, by rw [List.getElem?_append_right (Nat.le_refl _), Nat.sub_self]; rfl, rfl⟩
theorem sR_nth {E : eE} {α : List Nat} : ∀ {st : List eV} {xs : List Value} {k : Nat} {v : eV}, sR E α st xs → eNth st k = some v → ∃ x, xs[k]? = some x ∧ vR E α v x
  | [], _, _, _, _, h => by simp [eNth] at h
  | _ :: _, [], _, _, hs, _ => hs.elim
  | u :: _, x :: _, 0, v, hs, h => by
    simp only [eNth, Option.some.injEq] at h
    subst h
    exact ⟨x, rfl, hs.1⟩
  | _ :: st, _ :: xs, k + 1, v, hs, h => by
    obtain ⟨x, h1, h2⟩ := sR_nth (st := st) (xs := xs) (k := k) hs.2 h
    exact ⟨x, h1, h2⟩
theorem sR_set {E : eE} {α : List Nat} : ∀ {st : List eV} {xs : List Value} {k : Nat} {v : eV} {x : Value}, sR E α st xs → vR E α v x → sR E α (eSet st k v) (xs.set k x)
  | [], [], _, _, _, _, _ => trivial
  | [], _ :: _, _, _, _, hs, _ => hs.elim
  | _ :: _, [], _, _, _, hs, _ => hs.elim
  | _ :: _, _ :: _, 0, _, _, hs, h => ⟨h, hs.2⟩
  | _ :: _, _ :: _, _ + 1, _, _, hs, h => ⟨hs.1, sR_set hs.2 h⟩
theorem sR_len {E : eE} {α : List Nat} : ∀ {st : List eV} {xs : List Value}, sR E α st xs → xs.length = eLen st
  | [], [], _ => rfl
  | _ :: _, _ :: _, h => by simp [eLen, sR_len h.2]
  | [], _ :: _, h => h.elim
  | _ :: _, [], h => h.elim
theorem vR_cat {E : eE} {α : List Nat} : ∀ {v : eV} {x : Value}, vR E α v x → x.category = eCat v
  | .inl _, _, h => by cases h; rfl
  | .inr (.inl none), _, h => by cases h; rfl
  | .inr (.inl (some 0)), _, h => by cases h; rfl
  | .inr (.inl (some (k + 1))), _, ⟨_, _, h⟩ => by cases h; rfl
  | .inr (.inr (.inl _)), _, h => by cases h; rfl
  | .inr (.inr (.inr (.inl _))), _, h => by cases h; rfl
  | .inr (.inr (.inr (.inr (.inl _)))), _, h => by cases h; rfl
  | .inr (.inr (.inr (.inr (.inr _)))), _, h => by cases h; rfl
theorem sR_cats {E : eE} {α : List Nat} : ∀ {st : List eV} {xs : List Value}, sR E α st xs → (xs.map fun v => v.category).sum = eCats st
  | [], [], _ => rfl
  | _ :: _, _ :: _, h => by simp [eCats, vR_cat h.1, sR_cats h.2]
  | [], _ :: _, h => h.elim
  | _ :: _, [], h => h.elim
theorem ePut_nth : ∀ (ls : eL) (i : Nat) (o : Option eV) (j : Nat) (v : eV), eNth (ePut ls i o) j = some (some v) → (j = i ∧ o = some v) ∨ (j ≠ i ∧ eNth ls j = some (some v))
  | [], 0, o, 0, v, h => by simp [ePut, eNth] at h; exact Or.inl ⟨rfl, h⟩
  | [], 0, o, j + 1, v, h => by simp [ePut, eNth] at h
  | [], i + 1, o, 0, v, h => by simp [ePut, eNth] at h
  | [], i + 1, o, j + 1, v, h => by
    simp only [ePut, eNth] at h
    rcases ePut_nth [] i o j v h with ⟨h1, h2⟩ | ⟨h1, h2⟩
    · exact Or.inl ⟨by omega, h2⟩
    · simp [eNth] at h2
  | _ :: _, 0, o, 0, v, h => by simp [ePut, eNth] at h; exact Or.inl ⟨rfl, h⟩
  | _ :: l, 0, o, j + 1, v, h => Or.inr ⟨by omega, h⟩
  | _ :: _, i + 1, o, 0, v, h => Or.inr ⟨by omega, h⟩
  | _ :: l, i + 1, o, j + 1, v, h => by
    simp only [ePut, eNth] at h
    rcases ePut_nth l i o j v h with ⟨h1, h2⟩ | ⟨h1, h2⟩
    · exact Or.inl ⟨by omega, h2⟩
    · exact Or.inr ⟨by omega, h2⟩
theorem wr_of (x : Int) : (Int32.ofInt x).toInt = wr x := by unfold wr; rw [Int32.toInt_ofInt]
theorem wr64_of (x : Int) : (Int64.ofInt x).toInt = wr64 x := by unfold wr64; rw [Int64.toInt_ofInt]
theorem of_toInt (x : Int32) : Int32.ofInt x.toInt = x := Int32.ofInt_toInt x
theorem wr_lt_iff (x y : Int) : Int32.ofInt x < Int32.ofInt y ↔ wr x < wr y := by rw [Int32.lt_iff_toInt_lt, wr_of, wr_of]
theorem wr_eq_iff (x y : Int) : Int32.ofInt x = Int32.ofInt y ↔ wr x = wr y := by rw [← Int32.toInt_inj, wr_of, wr_of]
theorem wr_cl (x : Int) (h : 0 ≤ wr x) : (Int32.ofInt x).toNatClampNeg = (wr x).toNat := by
  show (Int32.ofInt x).toInt.toNat = _
  rw [wr_of]
theorem wr_in {x : Int} {n : Nat} (h : 0 ≤ wr x ∧ wr x < n) : vp_in (Int32.ofInt x) n := by
  rw [vp_in_iff, wr_of]; exact h
