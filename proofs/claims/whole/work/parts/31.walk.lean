/-! Rows for a walk of the pure machine: each takes the goal 'ev .. = R' some steps on. -/
noncomputable def evS : Nat → eFn
  | 0 => ev
  | k + 1 => eBody (evS k) ev ev
theorem evS_eq : ∀ k, evS k = ev
  | 0 => rfl
  | k + 1 => by
    show eBody (evS k) ev ev = ev
    rw [evS_eq k]
    funext M pc ls st w
    exact (ev_eq M pc ls st w).symm
theorem evS_at (N M pc : Nat) (ls : eL) (st : List eV) (w : eW) : evS N M pc ls st w = ev M pc ls st w := by rw [evS_eq]
section X
variable {N M pc M2 pc2 y : Nat} {ls ls2 as : eL} {st st2 : List eV} {w w2 w3 : eW} {R r A B : eRes}
theorem xSeg (h : evS N M pc ls st w = r) (hg : r = R) : ev M pc ls st w = R := ((evS_at N M pc ls st w).symm.trans h).trans hg
theorem xTop {a b : Int} (h : evS N M pc ls st w = ev M pc2 ls2 (eI a :: st2) w2) (ha : a = b) (hg : ∀ y : Int, y = b → ev M pc2 ls2 (eI y :: st2) w2 = R) : ev M pc ls st w = R := xSeg h (hg a ha)
theorem xLd {i : Int} {n k : Nat} {F : Nat → eRes} (h : evS N M pc ls st w = if 0 ≤ wr i ∧ wr i < (n : Int) then F (wr i).toNat else none) (hi : wr i = (k : Int)) (hk : k < n) (hg : F k = R) : ev M pc ls st w = R := by
  refine xSeg h ?_
  rw [if_pos ⟨by omega, by omega⟩, hi, Int.toNat_natCast]
  exact hg
theorem xBSt {v i : Int} {n k : Nat} {F : Nat → eRes} (h : evS N M pc ls st w = if wr v = 0 ∨ wr v = 1 then (if 0 ≤ wr i ∧ wr i < (n : Int) then F (wr i).toNat else none) else B) (hv : wr v = 0 ∨ wr v = 1) (hi : wr i = (k : Int)) (hk : k < n) (hg : F k = R) : ev M pc ls st w = R := by
  refine xSeg h ?_
  rw [if_pos hv, if_pos ⟨by omega, by omega⟩, hi, Int.toNat_natCast]
  exact hg
theorem xBSt2 {v i : Int} {n k : Nat} {F : Nat → eRes} (h : evS N M pc ls st w = if wr v = 0 ∨ wr v = 1 then B else if -128 ≤ wr v ∧ wr v ≤ 127 then (if 0 ≤ wr i ∧ wr i < (n : Int) then F (wr i).toNat else none) else A) (hv : 1 < wr v ∧ wr v ≤ 127) (hi : wr i = (k : Int)) (hk : k < n) (hg : F k = R) : ev M pc ls st w = R := by
  refine xSeg h ?_
  rw [if_neg (by omega), if_pos (by omega), if_pos ⟨by omega, by omega⟩, hi, Int.toNat_natCast]
  exact hg
theorem xBStZ {v i : Int} {n k : Nat} {F : Nat → Int → eRes} (h : evS N M pc ls st w = if wr v = 0 ∨ wr v = 1 then (if 0 ≤ wr i ∧ wr i < (n : Int) then F (wr i).toNat v else none) else (if 0 ≤ wr i ∧ wr i < (n : Int) then F (wr i).toNat (bAnd v 1) else none)) (hi : wr i = (k : Int)) (hk : k < n) (hg : F k (bNz v) = R) : ev M pc ls st w = R := by
  refine xSeg h ?_
  unfold bNz at hg
  by_cases hc : wr v = 0 ∨ wr v = 1
  · rw [if_pos hc, if_pos ⟨by omega, by omega⟩, hi, Int.toNat_natCast]
    rw [if_pos hc] at hg
    exact hg
  · rw [if_neg hc, if_pos ⟨by omega, by omega⟩, hi, Int.toNat_natCast]
    rw [if_neg hc] at hg
    exact hg
theorem xLt {x y a b : Int} (h : evS N M pc ls st w = if wr x < wr y then A else B) (hx : wr x = a) (hy : wr y = b) (hA : a < b → A = R) (hB : b ≤ a → B = R) : ev M pc ls st w = R := by
  refine xSeg h ?_
  rw [hx, hy]
  by_cases hc : a < b
  · rw [if_pos hc]; exact hA hc
  · rw [if_neg hc]; exact hB (by omega)
theorem xLtT {x y a b : Int} (h : evS N M pc ls st w = if wr x < wr y then A else B) (hx : wr x = a) (hy : wr y = b) (hc : a < b) (hA : A = R) : ev M pc ls st w = R := xLt h hx hy (fun _ => hA) (fun h => absurd hc (by omega))
theorem xLtF {x y a b : Int} (h : evS N M pc ls st w = if wr x < wr y then A else B) (hx : wr x = a) (hy : wr y = b) (hc : b ≤ a) (hB : B = R) : ev M pc ls st w = R := xLt h hx hy (fun h => absurd hc (by omega)) (fun _ => hB)
theorem xEq {x y a b : Int} (h : evS N M pc ls st w = if wr x = wr y then A else B) (hx : wr x = a) (hy : wr y = b) (hA : a = b → A = R) (hB : a ≠ b → B = R) : ev M pc ls st w = R := by
  refine xSeg h ?_
  rw [hx, hy]
  by_cases hc : a = b
  · rw [if_pos hc]; exact hA hc
  · rw [if_neg hc]; exact hB hc
theorem xEqT {x y a b : Int} (h : evS N M pc ls st w = if wr x = wr y then A else B) (hx : wr x = a) (hy : wr y = b) (hc : a = b) (hA : A = R) : ev M pc ls st w = R := xEq h hx hy (fun _ => hA) (fun h => absurd hc h)
theorem xEqF {x y a b : Int} (h : evS N M pc ls st w = if wr x = wr y then A else B) (hx : wr x = a) (hy : wr y = b) (hc : a ≠ b) (hB : B = R) : ev M pc ls st w = R := xEq h hx hy (fun h => absurd h hc) (fun _ => hB)
theorem xNz {y : Int} (h : evS N M pc ls st w = if wr y = 0 then none else A) (hy : ¬ wr y = 0) (hg : A = R) : ev M pc ls st w = R := by
  refine xSeg h ?_
  rw [if_neg hy]
  exact hg
theorem xIf {C : Prop} {dC : Decidable C} (h : evS N M pc ls st w = @ite _ C dC A none) (hc : C) (hg : A = R) : ev M pc ls st w = R := by
  refine xSeg h ?_
  rw [if_pos hc]
  exact hg
theorem xRb {v : Int} (h : evS N M pc ls st w = if wr v = 0 ∨ wr v = 1 then some (.inl (some (.inl v)), w2) else none) (hv : wr v = 0 ∨ wr v = 1) (hg : some (.inl (some (.inl v)), w2) = R) : ev M pc ls st w = R := by
  refine xSeg h ?_
  rw [if_pos hv]
  exact hg
theorem xCp {sp dp n : Int} {n0 n1 ks kd k : Nat} {F : Nat → Nat → Nat → eRes} (h : evS N M pc ls st w = if 0 ≤ wr sp ∧ 0 ≤ wr dp ∧ 0 ≤ wr n ∧ wr sp + wr n ≤ (n0 : Int) ∧ wr dp + wr n ≤ (n1 : Int) then F (wr sp).toNat (wr dp).toNat (wr n).toNat else none) (hs : wr sp = (ks : Int)) (hd : wr dp = (kd : Int)) (hn : wr n = (k : Int)) (h1 : ks + k ≤ n0) (h2 : kd + k ≤ n1) (hg : F ks kd k = R) : ev M pc ls st w = R := by
  refine xSeg h ?_
  rw [if_pos (by omega), hs, hd, hn, Int.toNat_natCast, Int.toNat_natCast, Int.toNat_natCast]
  exact hg
theorem xQ {o o2 : Option Nat} {G : Option Nat → eRes} (h : o = o2) (hg : G o2 = R) : G o = R := by rw [h]; exact hg
theorem xCall {v : eV} (h : evS N M pc ls st w = eBack0 ev M2 pc2 ls2 st2 (ev y 0 as [] w2)) (hc : ev y 0 as [] w2 = some (.inl (some v), w3)) (hg : ev M2 (pc2 + 3) ls2 (v :: st2) w3 = R) : ev M pc ls st w = R := by
  refine xSeg h ?_
  rw [hc]
  exact hg
theorem xCallV (h : evS N M pc ls st w = eBack0 ev M2 pc2 ls2 st2 (ev y 0 as [] w2)) (hc : ev y 0 as [] w2 = some (.inl none, w3)) (hg : ev M2 (pc2 + 3) ls2 st2 w3 = R) : ev M pc ls st w = R := by
  refine xSeg h ?_
  rw [hc]
  exact hg
theorem xCallW {v : eV} (h : evS N M pc ls st w = eBackW ev M2 pc2 ls2 st2 (eCat2 M2 pc2) (ev y 0 as [] w2)) (hc : ev y 0 as [] w2 = some (.inl (some v), w3)) (hg : ev M2 (pc2 + 3) ls2 (v :: st2) w3 = R) : ev M pc ls st w = R := by
  refine xSeg h ?_
  rw [hc]
  exact hg
theorem xCallWV (h : evS N M pc ls st w = eBackW ev M2 pc2 ls2 st2 (eCat2 M2 pc2) (ev y 0 as [] w2)) (hc : ev y 0 as [] w2 = some (.inl none, w3)) (hg : ev M2 (pc2 + 3) ls2 st2 w3 = R) : ev M pc ls st w = R := by
  refine xSeg h ?_
  rw [hc]
  exact hg
theorem xCallI {v : Int} (h : evS N M pc ls st w = eBack0 ev M2 pc2 ls2 st2 (ev y 0 as [] w2)) (hc : ev y 0 as [] w2 = some (.inl (some (eI v)), w3)) (hg : ∀ x : Int, x = v → ev M2 (pc2 + 3) ls2 (eI x :: st2) w3 = R) : ev M pc ls st w = R := xCall h hc (hg v rfl)
theorem xCallWI {v : Int} (h : evS N M pc ls st w = eBackW ev M2 pc2 ls2 st2 (eCat2 M2 pc2) (ev y 0 as [] w2)) (hc : ev y 0 as [] w2 = some (.inl (some (eI v)), w3)) (hg : ∀ x : Int, x = v → ev M2 (pc2 + 3) ls2 (eI x :: st2) w3 = R) : ev M pc ls st w = R := xCallW h hc (hg v rfl)
theorem xExc {E : Nat} (h : evS N M pc ls st w = eBackW ev M2 pc2 ls2 st2 (eCat2 M2 pc2) (ev y 0 as [] w2)) (hc : ev y 0 as [] w2 = some (.inr E, w3)) (he : eCat2 M2 pc2 E = none) (hg : some (.inr E, w3) = R) : ev M pc ls st w = R := by
  refine xSeg h ?_
  rw [hc]
  show (match eCat2 M2 pc2 E with
    | none => some (.inr E, w3)
    | some none => none
    | some (some (_, p)) => ev M2 p [] [] w3) = R
  rw [he]
  exact hg
theorem xCatch {E k p : Nat} (h : evS N M pc ls st w = eBackW ev M2 pc2 ls2 st2 (eCat2 M2 pc2) (ev y 0 as [] w2)) (hc : ev y 0 as [] w2 = some (.inr E, w3)) (he : eCat2 M2 pc2 E = some (some (k, p))) (hg : ev M2 p [] [] w3 = R) : ev M pc ls st w = R := by
  refine xSeg h ?_
  rw [hc]
  show (match eCat2 M2 pc2 E with
    | none => some (.inr E, w3)
    | some none => none
    | some (some (_, p)) => ev M2 p [] [] w3) = R
  rw [he]
  exact hg
end X
theorem eTake_take {β : Type} : ∀ (n : Nat) (l : List β), eTake n (eTake n l) = eTake n l
  | 0, _ => rfl
  | _ + 1, [] => rfl
  | n + 1, x :: l => by show x :: eTake n (eTake n l) = x :: eTake n l; rw [eTake_take n l]
def eKp (M pc : Nat) : Nat := match eCode M pc with
  | some (_, (_, (kp, _))) => kp
  | none => 0
/-- where ways meet, the locals behind the kept ones don't count -/
theorem xTk {M pc : Nat} {ls ls2 : eL} {st : List eV} {w : eW} {R : eRes} (n : Nat) (hk : eKp M pc = n) (hl : eTake n ls = ls2) (hg : ev M pc ls2 st w = R) : ev M pc ls st w = R := by
  rw [← hg, ev_eq, ev_eq, ← hl]
  unfold eBody
  unfold eKp at hk
  split
  · rename_i ins len kp a b he
    rw [he] at hk
    dsimp only at hk
    rw [hk, eTake_take]
  · rfl
theorem wr_nat {i : Int} {k : Nat} (h : i = (k : Int)) (hk : k < 2147483648) : wr i = (k : Int) := by rw [wr_id (by omega) (by omega)]; exact h
theorem loop_up {P : Nat → Prop} {n : Nat} (hn : P n) (hs : ∀ k, k < n → P (k + 1) → P k) : ∀ k, k ≤ n → P k := by
  have h : ∀ d k, k + d = n → P k := by
    intro d
    induction d with
    | zero => intro k hk; rw [Nat.add_zero] at hk; rw [hk]; exact hn
    | succ d ih => intro k hk; exact hs k (by omega) (ih (k + 1) (by omega))
  intro k hk
  exact h (n - k) k (by omega)
/-! The cells of a window. -/
abbrev wS : Type := Nat → Nat → Int
def uS (S : wS) (a : Nat) (f : Nat → Int) : wS := fun b => bif Nat.beq b a then f else S b
def uI (S : wS) (a i : Nat) (v : Int) : wS := uS S a (eUp (S a) i v)
def wC (S : wS) : List eC := [eO 4 [eR 1, eR 11, eR 15, eI (S 0 3), eI (S 0 4), eR 16, eR 17, eR 18, eI (S 0 8), eI (S 0 9), eI (S 0 10), eR 19],
  eO 0 [eI (S 1 0), eI (S 1 1), eR 2, eR 3, eI (S 1 4), eR 4, eR 5, eR 6, eR 7, eR 8, eR 9, eR 10],
  eA 1 36 (S 2), eA 0 36 (S 3), eA 0 24 (S 4), eA 0 24 (S 5), eA 1 24 (S 6), eA 0 36 (S 7), eA 0 36 (S 8), eA 0 144 (S 9), eA 0 144 (S 10),
  eO 5 [eI (S 11 0), eR 12, eR 13, eR 14], eA 0 30 (S 12), eA 0 180 (S 13), eA 0 26 (S 14), eA 0 24 (S 15), eA 0 24 (S 16), eA 0 24 (S 17), eA 0 576 (S 18), eA 0 144 (S 19)]
def wCb (b : Nat) (S : wS) : List eC := [eO 4 [eR (b + 1), eR (b + 11), eR (b + 15), eI (S 0 3), eI (S 0 4), eR (b + 16), eR (b + 17), eR (b + 18), eI (S 0 8), eI (S 0 9), eI (S 0 10), eR (b + 19)],
  eO 0 [eI (S 1 0), eI (S 1 1), eR (b + 2), eR (b + 3), eI (S 1 4), eR (b + 4), eR (b + 5), eR (b + 6), eR (b + 7), eR (b + 8), eR (b + 9), eR (b + 10)],
  eA 1 36 (S 2), eA 0 36 (S 3), eA 0 24 (S 4), eA 0 24 (S 5), eA 1 24 (S 6), eA 0 36 (S 7), eA 0 36 (S 8), eA 0 144 (S 9), eA 0 144 (S 10),
  eO 5 [eI (S 11 0), eR (b + 12), eR (b + 13), eR (b + 14)], eA 0 30 (S 12), eA 0 180 (S 13), eA 0 26 (S 14), eA 0 24 (S 15), eA 0 24 (S 16), eA 0 24 (S 17), eA 0 576 (S 18), eA 0 144 (S 19)]
