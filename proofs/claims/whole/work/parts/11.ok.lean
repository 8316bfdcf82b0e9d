/-! What holds around a method's frame; what a method owes; eOk: the walk goes on well from here. -/
def eMov (w : Cond) : Bool := match w with
  | .methodLinkNest _ _ _ _ => true
  | .castable _ _ => true
  | .declares _ => true
  | _ => false
def eSp : List Cond := lw_tbl.filter eMov
def eTx (k : Nat) : String := String.ofList ((eStr k).map fun x => Char.ofNat x.toNat)
def eSl : List Nat := (List.range 19).map fun k => eLen (eStr k)
def eSb : List (List Int32) := (List.range 19).map fun k => (eStr k).map fun x => Int32.ofInt x
/-- the String constants and what their methods read -/
def eXs (E : eE) (A : Nat → Prop) (U : State) : Prop := (∀ k, k < 19 → vk_S 1 [eSl.getD k 0] [eSb.getD k []] (fun _ => E.2.2.2.1 k) (fun _ => E.2.2.2.2 k) A U U.heap) ∧ (∀ q ∈ eSS, vk_R (eCN q.1) q.2.1 (eTx q.2.2.1) (E.2.2.2.1 q.2.2.1) U) ∧
  va_Z "java/lang/String" "COMPACT_STRINGS" "Z" (.int 1) A U U.heap ∧ va_Zq "jdk/internal/util/Preconditions" "SIOOBE_FORMATTER" "Ljava/util/function/BiFunction;" A U U.heap
def eXa (E : eE) (U : State) : Prop := U.vm.findClass "[I" = some E.2.1.1 ∧ U.vm.findClass "[Z" = some E.2.1.2.1 ∧ U.vm.findClass "[B" = some E.2.1.2.2.1 ∧ U.vm.findClass "[J" = some E.2.1.2.2.2.1 ∧ U.vm.findClass "[LShopCross$Window;" = some E.2.1.2.2.2.2 ∧ ∀ i j, i < 4 → j < 4 → i ≠ j → va_Nc (eExN i) (eExN j) U
def eX (E : eE) (A : Nat → Prop) (U : State) : Prop := (∀ w ∈ eSp, va_Nw w U) ∧ va_AO "ShopCross$Window" U ∧ vx_Zq Bundle.tN "UNASSIGNED_STACK" Bundle.steD A U U.heap ∧ vx_Zq Bundle.tN "SUPPRESSED_SENTINEL" Bundle.listD A U U.heap ∧
  va_X E.2.2.1.1 E.2.2.1.2.1 E.2.2.1.2.2 U U.heap ∧ (¬ A E.2.2.1.1 ∧ E.2.2.1.1 < U.heap.size ∧ E.2.2.1.2.1 < 2 ^ 31) ∧ eXs E A U ∧ eXa E U
theorem eNw_moved {w : Cond} (hm : eMov w = true) {s U : State} (hW : s.WarmedH U.vm) (h : va_Nw w s) : va_Nw w U := by
  cases w <;> first | (exact va_Nw.warmM hW h) | (exact va_Nw.warmC hW h) | (exact va_Nw.warmD hW h) | (cases hm; done)
theorem eX_at {E : eE} {A B : Nat → Prop} {s U : State} {H : Heap} (h : eX E A s) (hz : s.heap.size ≤ H.size) (hq : ∀ a : Nat, a < s.heap.size → ¬ A a → H[a]? = s.heap[a]?) (hU : U.heap = H) (hW : s.WarmedH U.vm) (hB : ∀ q, B q → A q) : eX E B U := by
  obtain ⟨h1, h2, h3, h4, h5, ⟨h6, h7, h9⟩, ⟨s1, s2, s3, s4⟩, ⟨a1, a2, a3, a4, a5, a6⟩⟩ := h
  have ha := hW.alike
  subst hU
  refine ⟨fun w hw => eNw_moved (List.mem_filter.mp hw).2 hW (h1 w hw), va_AO.moved ha h2, ((vx_Zq.moved ha (h3.kept hq)).narrow hB), ((vx_Zq.moved ha (h4.kept hq)).narrow hB), va_X.moved ha (h5.kept (hq _ h7 h6)), ⟨fun z => h6 (hB _ z), Nat.lt_of_lt_of_le h7 hz, h9⟩,
    ⟨fun k hk => ((vk_S.moved ha ((s1 k hk).kept hq)).narrow hB), fun q hq => vk_R.warm hW (s2 q hq), ((va_Z.moved ha (s3.kept hq)).narrow hB), ((va_Zq.moved ha (s4.kept hq)).narrow hB)⟩, ?_⟩
  unfold eXa
  rw [ha.findClass, ha.findClass, ha.findClass, ha.findClass, ha.findClass]
  exact ⟨a1, a2, a3, a4, a5, fun i j hi hj hij => (a6 i j hi hj hij).moved ha⟩
theorem eX_same {E : eE} {A : Nat → Prop} {s U : State} (h : eX E A s) (hU : U.heap = s.heap) (hv : U.vm = s.vm) : eX E A U :=
  eX_at (H := s.heap) h (Nat.le_refl _) (fun _ _ _ => rfl) hU (by rw [hv]; exact State.WarmedH.refl s) (fun _ h => h)
/-- a method's start: its arguments, the world -/
def ePc (E : eE) (α : List Nat) (ws : va_W) (sz : Nat) (w : eW) (as : List eV) : Array Value → State → Prop := fun v U =>
  (∃ vs, v = vs.toArray ∧ sR E α as vs) ∧ U.heap.size = sz ∧ wR E α w.1 ws ∧ va_P E.1 vwCl ws U.heap ∧ va_K E.1 vwCl (eTs E) U ∧ va_D (fun _ => True) ws ∧ eX E (va_A ws sz) U
def eRV (E : eE) (α : List Nat) (o : Option eV) (v : Option Value) : Prop := match o, v with
  | none, none => True
  | some x, some y => vR E α x y
  | _, _ => False
/-- its end -/
def eQr (E : eE) (α : List Nat) (A : Nat → Prop) (r : (Option eV ⊕ Nat) × eW) : Array Value → State → Outcome → State → Prop := fun _ st oc t =>
  ∃ (o : Option eV) (v : Option Value) (β : List Nat) (ws1 : va_W), r.1 = .inl o ∧ oc = .returned v ∧ eRV E (α ++ β) o v ∧ wR E (α ++ β) r.2.1 ws1 ∧ va_P E.1 vwCl ws1 t.heap ∧ va_D A ws1 ∧ va_F A st t
def eXr (E : eE) (α : List Nat) (A : Nat → Prop) (r : (Option eV ⊕ Nat) × eW) : String → State → State → Prop := fun En st t =>
  ∃ (k : Nat) (β : List Nat) (ws1 : va_W), k < 4 ∧ r.1 = .inr k ∧ En = eExN k ∧ wR E (α ++ β) r.2.1 ws1 ∧ va_P E.1 vwCl ws1 t.heap ∧ va_D A ws1 ∧ va_F A st t
/-- around the frame of M -/
def eFr (p : Program) (l : Launch) (R : Room) (s : State) (m : MethodId) (args : Array Value) (meth : Method) (c : Code) (E : eE) (A : Nat → Prop) (M : Nat) : Prop :=
  p.tables.exec = Jvm.exec ∧ l.stackTraces = false ∧ c.code = eByt M ∧ c.maxLocals = eMaxL M ∧ meth.sig.returnType = eRt M ∧ s.vm.findClass (eCN (eOw M)) = some m.cls ∧ meth.locks = false ∧ (∀ w ∈ eAll, w.before args s = true) ∧ (eKd M = 2 → meth.name = "<init>") ∧
  (M ≠ 344 → c.exceptionTable.toList = (eHh M).map (fun h => { startPc := h.1, endPc := h.2.1, handlerPc := h.2.2.1, catchType := h.2.2.2 })) ∧ va_K E.1 vwCl (eTs E) s ∧ eX E A s ∧ (∀ q, s.heap.size ≤ q → A q) ∧ eDep M ≤ R.frames ∧ 39 * eDep M ≤ R.locals
/-- the walk goes on well from here: X = the addresses at the start, cells and slots made before it -/
def eOk (p : Program) (l : Launch) (e : Env) (R : Room) (s : State) (m : MethodId) (args : Array Value) (below : List Frame) (meth : Method) (c : Code) (E : eE) (A : Nat → Prop) (X : List Nat × (Nat × Nat)) (r : (Option eV ⊕ Nat) × eW) (M pc : Nat) (ls : eL) (st : List eV) (w : eW) : Prop :=
  (w.2.1 ≤ r.2.2.1 ∧ w.2.2 ≤ r.2.2.2) ∧ ∀ (β : List Nat) (ws : va_W) (H : Heap) (locs : List Loc) (lsm : Array Slot) (stv : List Value) (kc ks : Nat), lR E (X.1 ++ β) (eMaxL M) ls lsm → sR E (X.1 ++ β) st stv → wR E (X.1 ++ β) w.1 ws → va_P E.1 vwCl ws H → va_D A ws → va_S A s.heap H locs → kc + X.2.1 = w.2.1 → ks + X.2.2 = w.2.2 →
    W p l e R s m args below meth c H locs kc ks (vx_MQ below (eQr E X.1 A r) (eXr E X.1 A r) args s R.cells R.slots A) (F0 m pc lsm stv)
