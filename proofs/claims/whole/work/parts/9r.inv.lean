/-! What holds of the class and of the model in the law's world. -/
theorem atL_idx {V : List eC} : ∀ {as : List Nat} {cs : List eC}, as.length = cs.length → (∀ (k : Nat) (c : eC), cs[k]? = some c → ∃ a, as[k]? = some a ∧ eNth V a = some c) → atL V as cs
  | [], [], _, _ => trivial
  | a :: as, c :: cs, hl, h => by
    refine ⟨?_, atL_idx (by simpa using hl) (fun k x hk => ?_)⟩
    · obtain ⟨a', h1, h2⟩ := h 0 c rfl
      cases h1
      exact h2
    · obtain ⟨a', h1, h2⟩ := h (k + 1) x (by simpa using hk)
      exact ⟨a', by simpa using h1, h2⟩
  | [], _ :: _, hl, _ => by simp at hl
  | _ :: _, [], hl, _ => by simp at hl
theorem allNj_at : ∀ {l : List eC} {k : Nat} {c : eC}, allNj l = true → l[k]? = some c → jk c = false
  | [], _, _, _, h => by simp at h
  | x :: l, 0, c, hj, h => by
    simp at h
    subst h
    have h1 := (Bool.and_eq_true_iff.mp hj).1
    cases hb : jk x with
    | false => rfl
    | true => rw [hb] at h1; cases h1
  | x :: l, k + 1, c, hj, h => allNj_at (l := l) (k := k) (Bool.and_eq_true_iff.mp hj).2 (by simpa using h)
theorem atL_tW {σ : Nat → eV} {α : List Nat} {W V : List eC} (h : tW σ α W V) (hq : noQ W = true) (hj : allNj W = true) : atL V α (W.map (rC σ α)) := by
  refine atL_idx (by rw [List.length_map]; exact h.1) (fun k c hk => ?_)
  rw [List.getElem?_map] at hk
  cases hw : W[k]? with
  | none => rw [hw] at hk; cases hk
  | some x =>
    rw [hw] at hk
    obtain ⟨k', c', h1, h2, h3⟩ := h.2.1 k x hw
    refine ⟨k', h1, ?_⟩
    rw [eNth_eq, h2, rC_of (noQ_at hq hw) (allNj_at hj hw) h3]
    exact hk
def ptL (l : List Nat) (i : Nat) : Nat := (l[i]?).getD 0
theorem ptL_at {l : List Nat} {i : Nat} (h : i < l.length) : l[i]? = some (ptL l i) := by
  unfold ptL
  rw [List.getElem?_eq_getElem h]
  rfl
theorem wLf_list {l : List Nat} (h : l.length = 20) : wLf (ptL l) = l := by
  rw [wLf_map]
  apply List.ext_getElem?
  intro i
  rw [List.getElem?_map]
  by_cases hi : i < 20
  · rw [List.getElem?_range hi, ptL_at (by omega : i < l.length)]
    rfl
  · rw [List.getElem?_eq_none (by rw [List.length_range]; omega), List.getElem?_eq_none (by omega)]
    rfl
/-- a new window -/
theorem winNew {V : List eC} {d : Nat × Nat} : ∃ (V3 : List eC) (b : Nat → Nat), ev m_W_init 0 [some (eR V.length)] [] (V ++ [eO 4 (eDefs 4)], d) = some (.inl none, (V3, (d.1 + 19, d.2 + 1548))) ∧ b 0 = V.length ∧ winAt V3 b wS0 ∧ inj20 b ∧ (∀ k, k < V.length → eNth V3 k = eNth V k) ∧ (∀ i, i < 20 → V.length ≤ b i) ∧ V.length < V3.length := by
  have hobj : (V ++ [eO 4 (eDefs 4)])[V.length]? = some (eO 4 (eDefs 4)) := by rw [List.getElem?_append_right (Nat.le_refl _), Nat.sub_self]; rfl
  have hw : tW eSt [V.length] [eO 4 (eDefs 4)] (V ++ [eO 4 (eDefs 4)]) := by
    refine ⟨rfl, fun k c hk => ?_, fun i j q ci cj h1 h2 h3 h4 h5 h6 => ?_⟩
    · cases k with
      | zero =>
        simp at hk
        subst hk
        exact ⟨V.length, _, rfl, hobj, ⟨_, rfl, tS_okU (σ := eSt) (α := [V.length]) (l := eDefs 4) rfl⟩⟩
      | succ k => simp at hk
    · have e1 : i < 1 := (List.getElem?_eq_some_iff.mp h3).1
      have e2 : j < 1 := (List.getElem?_eq_some_iff.mp h4).1
      omega
  obtain ⟨β, V', d', o', h1, h2, ⟨h3, h4, h5, h6, h7, h8⟩⟩ := tEv (σ := eSt) m_W_init 0 [some (eR 0)] [] [eO 4 (eDefs 4)] (0, 0) _ c_winit [V.length] (V ++ [eO 4 (eDefs 4)]) d [some (eR V.length)] [] hw ⟨⟨V.length, rfl, rfl⟩, trivial⟩ trivial
  have ho : o' = .inl none := h2
  subst ho
  have hl := h3.1
  have hl20 : ([V.length] ++ β).length = 20 := hl
  have hd : d' = (d.1 + 19, d.2 + 1548) := by
    obtain ⟨p1, p2⟩ := d'
    have e1 := h4.1
    have e2 := h4.2
    dsimp only at e1 e2
    rw [Prod.mk.injEq]
    exact ⟨by omega, by omega⟩
  have hV2 : (V ++ [eO 4 (eDefs 4)]).length = V.length + 1 := by rw [List.length_append]; rfl
  have hb := wLf_list hl20
  have hat := atL_tW h3 rfl rfl
  refine ⟨V', ptL ([V.length] ++ β), by rw [h1, hd], rfl, ?_, ?_, fun k hk => ?_, fun i hi => ?_, by omega⟩
  · show atL V' (wLf _) (wCf _ wS0)
    rw [← wC_wCf (σ := eSt), hb]
    exact hat
  · intro i j hi hj e
    have e1 := ptL_at (l := [V.length] ++ β) (i := i) (by omega)
    have e2 := ptL_at (l := [V.length] ++ β) (i := j) (by omega)
    rw [← e] at e2
    have e3 : (wC wS0)[i]? = some ((wC wS0)[i]'hi) := List.getElem?_eq_getElem hi
    have e4 : (wC wS0)[j]? = some ((wC wS0)[j]'hj) := List.getElem?_eq_getElem hj
    exact h3.2.2 i j _ _ _ e1 e2 e3 e4 (allNj_at (l := wC wS0) rfl e3) (allNj_at (l := wC wS0) rfl e4)
  · have h9 := h7 k (by omega) (fun i cc hi _ he => by
      cases i with
      | zero =>
        have : V.length = k := by simpa using he
        omega
      | succ i => simp at he)
    rw [eNth_eq, eNth_eq, h9, List.getElem?_append_left hk]
  · have hm := List.mem_of_getElem? (ptL_at (l := [V.length] ++ β) (i := i) (by omega))
    rcases List.mem_append.mp hm with hm | hm
    · have := List.mem_singleton.mp hm; omega
    · have := h6 _ hm; omega
/-! The class. -/
def xC (P : Nat → Int) : eC := eO 6 [eR 2, eR 3, eR 26, eR 46, eR 66, eR 68, eR 69, eI (P 7)]
def pX (P : Nat → Int) : eC := eO 3 [eR 3, eR 6, eR 4, eI (P 3), eI (P 4), eI (P 5), eI (P 6), eI (P 7), eI (P 8), eI (P 9), eI (P 10), eI (P 11), eI (P 12), eI (P 13), eI (P 14), eI (P 15), eI (P 16), eI (P 17)]
abbrev bP (i : Nat) : Nat := 6 + i
abbrev bC (i : Nat) : Nat := 26 + i
abbrev bTr (i : Nat) : Nat := 46 + i
abbrev wdT : Type := Nat → Option ((Nat → Nat) × wS)
def okR (a : eRow) : Prop := iA a ∧ iB a
def CW (V : List eC) (b : Nat → Nat) (a : eRow) : Prop := ∃ S, winAt V b S ∧ wA S a ∧ okR a
def CT (V : List eC) : Prop := ∃ S, winAt V bTr S
def wdOk (V : List eC) (wd : wdT) : Prop := (∀ i b S, i < 10 → wd i = some (b, S) → inj20 b ∧ (∀ j, j < 20 → 82 ≤ b j) ∧ winAt V b S) ∧ ∀ i j b S b' S', i < 10 → j < 10 → i ≠ j → wd i = some (b, S) → wd j = some (b', S') → apart b b'
def erC (P : Nat → Int) : Option (Nat × Nat) → Prop
  | none => P 3 = 0
  | some (k, s) => P 3 = (k : Int) ∧ P 4 = (s : Int) ∧ 1 ≤ k ∧ k ≤ 9
def ht0 (z : (Nat → Nat) × wS) : Nat := z.1 0
/-- the state: what is remembered (how many, what), saved, the input (its length, its bytes), the error, the output (its length, its bytes) -/
abbrev xT : Type := (Nat × (Nat → eRow)) × ((Nat → Option eRow) × ((Nat × (Nat → Nat)) × (Option (Nat × Nat) × (Nat × (Nat → Nat)))))
/-- the remembered windows, the saved ones -/
def hsC (wd : wdT) (nx hn : Nat) (h : Nat → eRow) : Prop := ∀ j, j < hn → ∃ b T, wd ((nx + 7 - j) % 8) = some (b, T) ∧ wA T (h j) ∧ okR (h j)
def svC (wd : wdT) (s : Nat → Option eRow) : Prop := ∀ i, i < 2 → match s i with
  | none => wd (8 + i) = none
  | some r => ∃ b T, wd (8 + i) = some (b, T) ∧ wA T r ∧ okR r
def CH (V : List eC) (hn : Nat) (h : Nat → eRow) (s : Nat → Option eRow) : Prop := ∃ (wd : wdT) (f q : Nat → Option Nat) (hN hC : Int) (nx : Nat), (eNth V 66 = some (eO 1 [eR 67, eI hN, eI hC]) ∧ eNth V 67 = some (eQ 8 f) ∧ eNth V 68 = some (eQ 2 q)) ∧ (hC = (hn : Int) ∧ hn ≤ 8 ∧ hN = (nx : Int) ∧ nx < 8) ∧ (∀ i, i < 8 → f i = (wd i).map ht0) ∧ (∀ i, i < 2 → q i = (wd (8 + i)).map ht0) ∧ hsC wd nx hn h ∧ svC wd s ∧ wdOk V wd ∧ 82 ≤ V.length
def CN (V : List eC) (n : Nat) (B : Nat → Nat) (er : Option (Nat × Nat)) : Prop := ∃ (Pp bY sp : Nat → Int) (Sp : wS) (ln : Int), (eNth V 2 = some (pX Pp) ∧ eNth V 3 = some (eO 2 [eR 4, eI ln, eR 5]) ∧ eNth V 4 = some (eA 0 600 bY) ∧ eNth V 5 = some (eA 0 6 sp)) ∧ winAt V bP Sp ∧ (ln = (n : Int) ∧ n ≤ 600 ∧ ∀ i, i < 600 → bY i = (B i : Int) ∧ B i < 256) ∧ erC Pp er
def CO (V : List eC) (on : Nat) (ou : Nat → Nat) : Prop := ∃ (P oY : Nat → Int), eNth V 1 = some (xC P) ∧ eNth V 69 = some (eA 0 6 oY) ∧ P 7 = (on : Int) ∧ on ≤ 6 ∧ ∀ i, i < on → oY i = (ou i : Int) ∧ ou i < 128
def CI (V : List eC) (a : eRow) (x : xT) : Prop := CW V bC a ∧ CT V ∧ CH V x.1.1 x.1.2 x.2.1 ∧ CN V x.2.2.1.1 x.2.2.1.2 x.2.2.2.1 ∧ CO V x.2.2.2.2.1 x.2.2.2.2.2
/-! The model. -/
def mX (P : Nat → Int) : eC := eO 7 [eR 71, eR 72, eR 73, eR 74, eR 75, eR 76, eR 77, eR 78, eI (P 8), eI (P 9), eI (P 10), eR 79, eI (P 12), eI (P 13), eI (P 14), eI (P 15), eI (P 16), eI (P 17), eI (P 18), eI (P 19), eR 80, eI (P 21)]
def rgA (g : Nat → Int) (o : Nat) (a : eRow) : Prop := ∀ i, i < 964 → g (o + i) = (a i : Int)
def erM (P : Nat → Int) : Option (Nat × Nat) → Prop
  | none => P 18 = 0 ∧ P 19 = -1
  | some (k, s) => P 18 = (k : Int) ∧ P 19 = (s : Int) ∧ 1 ≤ k ∧ k ≤ 9
def MI (V : List eC) (a : eRow) (x : xT) (t : Int) : Prop := ∃ (P g gp gt gr gs mk fr kp bM oM : Nat → Int) (us : Nat), (eNth V 70 = some (mX P) ∧ eNth V 71 = some (eA 0 964 g) ∧ eNth V 72 = some (eA 0 964 gp) ∧ eNth V 73 = some (eA 0 964 gt) ∧ eNth V 74 = some (eA 0 7712 gr) ∧ eNth V 75 = some (eA 0 1928 gs) ∧ eNth V 76 = some (eA 0 144 mk) ∧ eNth V 77 = some (eA 0 24 fr) ∧ eNth V 78 = some (eA 1 2 kp) ∧ eNth V 79 = some (eA 0 600 bM) ∧ eNth V 80 = some (eA 2 6 oM)) ∧ (rg g a ∧ okR a) ∧ P 10 = t ∧ (P 12 = (x.2.2.1.1 : Int) ∧ x.2.2.1.1 ≤ 600 ∧ ∀ i, i < x.2.2.1.1 → bM i = (x.2.2.1.2 i : Int) ∧ x.2.2.1.2 i < 256) ∧ erM P x.2.2.2.1 ∧ (P 21 = (x.2.2.2.2.1 : Int) ∧ x.2.2.2.2.1 ≤ 6 ∧ ∀ i, i < x.2.2.2.2.1 → oM i = (x.2.2.2.2.2 i : Int)) ∧ (P 8 = (x.1.1 : Int) ∧ x.1.1 ≤ 8 ∧ P 9 = (us : Int) ∧ us < 8 ∧ ∀ j, j < x.1.1 → rgA gr (964 * ((us + x.1.1 - 1 - j) % 8)) (x.1.2 j) ∧ okR (x.1.2 j)) ∧ ∀ i, i < 2 → match x.2.1 i with
  | none => kp i = 0
  | some r => kp i = 1 ∧ rgA gs (964 * i) r ∧ okR r
/-- the class's places stay, the model's places stay -/
def frC (V V' : List eC) : Prop := V.length ≤ V'.length ∧ ∀ k, (k = 0 ∨ (70 ≤ k ∧ k ≤ 80)) → eNth V' k = eNth V k
def frM (V V' : List eC) : Prop := V'.length = V.length ∧ ∀ k, ¬ (70 ≤ k ∧ k ≤ 80) → eNth V' k = eNth V k
def dl (d d' : Nat × Nat) : Prop := d'.1 ≤ d.1 + 24 ∧ d'.2 ≤ d.2 + 2000
theorem wat_fr {V V' : List eC} {b : Nat → Nat} {S : wS} (h : winAt V b S) (hn : ∀ i, i < 20 → eNth V' (b i) = eNth V (b i)) : winAt V' b S := by
  have hs : ∀ {as : List Nat} {cs : List eC}, (∀ k ∈ as, eNth V' k = eNth V k) → atL V as cs → atL V' as cs := by
    intro as
    induction as with
    | nil => intro cs _ h; cases cs with
      | nil => trivial
      | cons _ _ => exact h.elim
    | cons a as ih => intro cs hn h; cases cs with
      | nil => exact h.elim
      | cons c cs => exact ⟨(hn a List.mem_cons_self).trans h.1, ih (fun k hk => hn k (List.mem_cons_of_mem _ hk)) h.2⟩
  exact hs (fun k hk => by
    obtain ⟨i, hi, h1⟩ := wLf_mem hk
    rw [h1]
    exact hn i hi) h
theorem CH_fr {V V' : List eC} {hn : Nat} {h : Nat → eRow} {s : Nat → Option eRow} (hl : V.length ≤ V'.length) (hf : ∀ k, (66 ≤ k ∧ k ≤ 68) ∨ 82 ≤ k → eNth V' k = eNth V k) (c : CH V hn h s) : CH V' hn h s := by
  obtain ⟨wd, f, q, hN, hC, nx, ⟨c1, c2, c3⟩, c4, c5, c6, c7, c8, ⟨c9, c10⟩, c11⟩ := c
  exact ⟨wd, f, q, hN, hC, nx, ⟨(hf 66 (by omega)).trans c1, (hf 67 (by omega)).trans c2, (hf 68 (by omega)).trans c3⟩, c4, c5, c6, c7, c8, ⟨fun i b S hi e => by
    obtain ⟨d1, d2, d3⟩ := c9 i b S hi e
    exact ⟨d1, d2, wat_fr d3 (fun j hj => hf _ (Or.inr (d2 j hj)))⟩, c10⟩, by omega⟩
theorem CN_fr {V V' : List eC} {n : Nat} {B : Nat → Nat} {er : Option (Nat × Nat)} (hf : ∀ k, 2 ≤ k ∧ k ≤ 25 → eNth V' k = eNth V k) (c : CN V n B er) : CN V' n B er := by
  obtain ⟨Pp, bY, sp, Sp, ln, ⟨c1, c2, c3, c4⟩, c5, c6⟩ := c
  exact ⟨Pp, bY, sp, Sp, ln, ⟨(hf 2 (by omega)).trans c1, (hf 3 (by omega)).trans c2, (hf 4 (by omega)).trans c3, (hf 5 (by omega)).trans c4⟩, wat_fr c5 (fun i hi => hf _ (by show 2 ≤ 6 + i ∧ 6 + i ≤ 25; omega)), c6⟩
theorem CO_fr {V V' : List eC} {on : Nat} {ou : Nat → Nat} (hf : ∀ k, k = 1 ∨ k = 69 → eNth V' k = eNth V k) (c : CO V on ou) : CO V' on ou := by
  obtain ⟨P, oY, c1, c2, c3⟩ := c
  exact ⟨P, oY, (hf 1 (by omega)).trans c1, (hf 69 (by omega)).trans c2, c3⟩
theorem CW_fr {V V' : List eC} {a : eRow} (hf : ∀ k, 26 ≤ k ∧ k ≤ 45 → eNth V' k = eNth V k) (c : CW V bC a) : CW V' bC a := by
  obtain ⟨S, c1, c2⟩ := c
  exact ⟨S, wat_fr c1 (fun i hi => hf _ (by show 26 ≤ 26 + i ∧ 26 + i ≤ 45; omega)), c2⟩
theorem CT_fr {V V' : List eC} (hf : ∀ k, 46 ≤ k ∧ k ≤ 65 → eNth V' k = eNth V k) (c : CT V) : CT V' := by
  obtain ⟨S, c1⟩ := c
  exact ⟨S, wat_fr c1 (fun i hi => hf _ (by show 46 ≤ 46 + i ∧ 46 + i ≤ 65; omega))⟩
theorem CI_fr {V V' : List eC} {a : eRow} {x : xT} (hl : V.length ≤ V'.length) (hf : ∀ k, (1 ≤ k ∧ k ≤ 69) ∨ 82 ≤ k → eNth V' k = eNth V k) (c : CI V a x) : CI V' a x := by
  obtain ⟨c1, c2, c3, c4, c5⟩ := c
  exact ⟨CW_fr (fun k hk => hf k (by omega)) c1, CT_fr (fun k hk => hf k (by omega)) c2, CH_fr hl (fun k hk => hf k (by omega)) c3, CN_fr (fun k hk => hf k (by omega)) c4, CO_fr (fun k hk => hf k (by omega)) c5⟩
theorem MI_fr {V V' : List eC} {a : eRow} {x : xT} {t : Int} (hf : ∀ k, 70 ≤ k ∧ k ≤ 80 → eNth V' k = eNth V k) (c : MI V a x t) : MI V' a x t := by
  obtain ⟨P, g, gp, gt, gr, gs, mk, fr, kp, bM, oM, us, ⟨c0, c1, c2, c3, c4, c5, c6, c7, c8, c9, c10⟩, c11⟩ := c
  exact ⟨P, g, gp, gt, gr, gs, mk, fr, kp, bM, oM, us, ⟨(hf 70 (by omega)).trans c0, (hf 71 (by omega)).trans c1, (hf 72 (by omega)).trans c2, (hf 73 (by omega)).trans c3, (hf 74 (by omega)).trans c4, (hf 75 (by omega)).trans c5, (hf 76 (by omega)).trans c6, (hf 77 (by omega)).trans c7, (hf 78 (by omega)).trans c8, (hf 79 (by omega)).trans c9, (hf 80 (by omega)).trans c10⟩, c11⟩
