/-! Runs of letters and of digits. -/
def stV (v b : Nat) : Nat := if 99999999 < v then v else 10 * v + b - 48
def vaN (B : Nat → Nat) : Nat → Nat → Nat → Nat
  | 0, _, v => v
  | d + 1, i, v => if kd (B i) = 2 then vaN B d (i + 1) (stV v (B i)) else v
theorem kd_1 {b : Nat} : kd b = 1 ↔ (97 ≤ b ∧ b ≤ 122) := by unfold kd; split <;> (try split) <;> omega
theorem kd_2 {b : Nat} : kd b = 2 ↔ (48 ≤ b ∧ b ≤ 57) := by unfold kd; split <;> (try split) <;> omega
set_option maxRecDepth 100000
theorem n_rnL {P bY : Nat → Int} {B : Nat → Nat} {n : Nat} {c : Nat × Nat} {r : eRes} {y : Int} (h12 : P 12 = (n : Int)) (hn : n ≤ 600) (hby : ∀ i, i < n → bY i = (B i : Int) ∧ B i < 256) : ∀ d i : Nat, i + d = n → ∀ (l v : Int), v = (i : Int) → 0 ≤ l → l ≤ v → (∀ l' v' : Int, v' = ((rnN B 1 d i : Nat) : Int) → l' = l + (v' - v) → some (.inl none, ([mN (eUp (eUp P 17 l') 13 v'), eA 0 600 bY], c)) = r) → ev m_M_advance 91 [some (eR 0), some (eI y)] [] ([mN (eUp (eUp P 17 l) 13 v), eA 0 600 bY], c) = r := by
  have e12 : ∀ l v, eUp (eUp P 17 l) 13 v 12 = (n : Int) := fun l v => by rw [eUp_ne (by omega), eUp_ne (by omega)]; exact h12
  have e17 : ∀ l v, eUp (eUp P 17 l) 13 v 17 = l := fun l v => by rw [eUp_ne (by omega), eUp_at]
  intro d
  induction d with
  | zero =>
    intro i hi l v hv h0 h1 hr
    have hb : bAt B n i = -1 := if_neg (by omega)
    refine xCallWI (N := 4) (v := bAt B n i) (M2 := m_M_advance) (pc2 := 96) (ls2 := [some (eR 0), some (eI y)]) (st2 := []) (y := m_M_byteAt) (as := [some (eR 0), some (eI v)]) (w2 := ([mN (eUp (eUp P 17 l) 13 v), eA 0 600 bY], c)) rfl (n_byteAt (i := i) (e12 l v) hn hby hv (by omega)) (fun r96 hr96 => ?_)
    refine xCallI (N := 1) (v := bI (decide (97 ≤ r96 ∧ r96 ≤ 122))) (M2 := m_M_advance) (pc2 := 99) (ls2 := [some (eR 0), some (eI y)]) (st2 := []) (y := m_M_isLetter) (as := [some (eI r96)]) (w2 := ([mN (eUp (eUp P 17 l) 13 v), eA 0 600 bY], c)) rfl (n_isLetter (by omega) (by omega)) (fun r99 hr99 => ?_)
    have hz : r99 = 0 := (bI_1 hr99).2.2.mpr (decide_eq_false (by omega))
    refine xEqT (N := 1) (x := r99) (y := 0) (A := ev m_M_advance 229 [some (eR 0), some (eI y)] [] ([mN (eUp (eUp P 17 l) 13 v), eA 0 600 bY], c)) (B := ev m_M_advance 105 [some (eR 0), some (eI y)] [] ([mN (eUp (eUp P 17 l) 13 v), eA 0 600 bY], c)) rfl (wr_id (by omega) (by omega)) (show wr 0 = 0 by decide) (by omega) ?_
    refine xSeg (N := 1) (r := some (.inl none, ([mN (eUp (eUp P 17 l) 13 v), eA 0 600 bY], c))) rfl ?_
    exact hr l v hv (by omega)
  | succ d ih =>
    intro i hi l v hv h0 h1 hr
    have hb := hby i (by omega)
    have hbA : bAt B n i = (B i : Int) := if_pos (by omega)
    have hw : rnN B 1 (d + 1) i = if kd (B i) = 1 then rnN B 1 d (i + 1) else i := rfl
    have e17v := e17 l v
    by_cases hk : kd (B i) = 1
    · rw [if_pos hk] at hw
      have hk2 := kd_1.mp hk
      have hq := ih (i + 1) (by omega) (l + 1) (v + 1) (by omega) (by omega) (by omega) (fun l' v' hv' hl' => hr l' v' (by rw [hw]; exact hv') (by omega))
      refine xCallWI (N := 4) (v := bAt B n i) (M2 := m_M_advance) (pc2 := 96) (ls2 := [some (eR 0), some (eI y)]) (st2 := []) (y := m_M_byteAt) (as := [some (eR 0), some (eI v)]) (w2 := ([mN (eUp (eUp P 17 l) 13 v), eA 0 600 bY], c)) rfl (n_byteAt (i := i) (e12 l v) hn hby hv (by omega)) (fun r96 hr96 => ?_)
      refine xCallI (N := 1) (v := bI (decide (97 ≤ r96 ∧ r96 ≤ 122))) (M2 := m_M_advance) (pc2 := 99) (ls2 := [some (eR 0), some (eI y)]) (st2 := []) (y := m_M_isLetter) (as := [some (eI r96)]) (w2 := ([mN (eUp (eUp P 17 l) 13 v), eA 0 600 bY], c)) rfl (n_isLetter (by omega) (by omega)) (fun r99 hr99 => ?_)
      have hz : r99 = 1 := (bI_1 hr99).2.1.mpr (decide_eq_true (by omega))
      refine xEqF (N := 1) (x := r99) (y := 0) (A := ev m_M_advance 229 [some (eR 0), some (eI y)] [] ([mN (eUp (eUp P 17 l) 13 v), eA 0 600 bY], c)) (B := ev m_M_advance 105 [some (eR 0), some (eI y)] [] ([mN (eUp (eUp P 17 l) 13 v), eA 0 600 bY], c)) rfl (wr_id (by omega) (by omega)) (show wr 0 = 0 by decide) (by omega) ?_
      refine xSeg (N := 13) (r := ev m_M_advance 91 [some (eR 0), some (eI y)] [] ([mN (eUp (eUp (eUp (eUp P 17 l) 13 v) 17 (l + 1)) 13 (v + 1)), eA 0 600 bY], c)) rfl ?_
      refine mN_ev (fun j _ _ => ?_) hq
      unfold eUp
      (repeat (first | omega | split)) <;> omega
    · rw [if_neg hk] at hw
      have hk2 : ¬(97 ≤ B i ∧ B i ≤ 122) := fun h => hk (kd_1.mpr h)
      refine xCallWI (N := 4) (v := bAt B n i) (M2 := m_M_advance) (pc2 := 96) (ls2 := [some (eR 0), some (eI y)]) (st2 := []) (y := m_M_byteAt) (as := [some (eR 0), some (eI v)]) (w2 := ([mN (eUp (eUp P 17 l) 13 v), eA 0 600 bY], c)) rfl (n_byteAt (i := i) (e12 l v) hn hby hv (by omega)) (fun r96 hr96 => ?_)
      refine xCallI (N := 1) (v := bI (decide (97 ≤ r96 ∧ r96 ≤ 122))) (M2 := m_M_advance) (pc2 := 99) (ls2 := [some (eR 0), some (eI y)]) (st2 := []) (y := m_M_isLetter) (as := [some (eI r96)]) (w2 := ([mN (eUp (eUp P 17 l) 13 v), eA 0 600 bY], c)) rfl (n_isLetter (by omega) (by omega)) (fun r99 hr99 => ?_)
      have hz : r99 = 0 := (bI_1 hr99).2.2.mpr (decide_eq_false (by omega))
      refine xEqT (N := 1) (x := r99) (y := 0) (A := ev m_M_advance 229 [some (eR 0), some (eI y)] [] ([mN (eUp (eUp P 17 l) 13 v), eA 0 600 bY], c)) (B := ev m_M_advance 105 [some (eR 0), some (eI y)] [] ([mN (eUp (eUp P 17 l) 13 v), eA 0 600 bY], c)) rfl (wr_id (by omega) (by omega)) (show wr 0 = 0 by decide) (by omega) ?_
      refine xSeg (N := 1) (r := some (.inl none, ([mN (eUp (eUp P 17 l) 13 v), eA 0 600 bY], c))) rfl ?_
      exact hr l v (by rw [hw]; exact hv) (by omega)
theorem n_rnD {P bY : Nat → Int} {B : Nat → Nat} {n : Nat} {c : Nat × Nat} {r : eRes} {y : Int} (h12 : P 12 = (n : Int)) (hn : n ≤ 600) (hby : ∀ i, i < n → bY i = (B i : Int) ∧ B i < 256) : ∀ d i : Nat, i + d = n → ∀ (m : Nat) (l v : Int), v = (i : Int) → l = (m : Int) → m < 1000000000 → (∀ l' v' : Int, v' = ((rnN B 2 d i : Nat) : Int) → l' = ((vaN B d i m : Nat) : Int) → some (.inl none, ([mN (eUp (eUp P 16 l') 13 v'), eA 0 600 bY], c)) = r) → ev m_M_advance 144 [some (eR 0), some (eI y)] [] ([mN (eUp (eUp P 16 l) 13 v), eA 0 600 bY], c) = r := by
  have e12 : ∀ l v, eUp (eUp P 16 l) 13 v 12 = (n : Int) := fun l v => by rw [eUp_ne (by omega), eUp_ne (by omega)]; exact h12
  have e16 : ∀ l v, eUp (eUp P 16 l) 13 v 16 = l := fun l v => by rw [eUp_ne (by omega), eUp_at]
  intro d
  induction d with
  | zero =>
    intro i hi m l v hv hl hm hr
    have hb : bAt B n i = -1 := if_neg (by omega)
    refine xCallWI (N := 4) (v := bAt B n i) (M2 := m_M_advance) (pc2 := 149) (ls2 := [some (eR 0), some (eI y)]) (st2 := []) (y := m_M_byteAt) (as := [some (eR 0), some (eI v)]) (w2 := ([mN (eUp (eUp P 16 l) 13 v), eA 0 600 bY], c)) rfl (n_byteAt (i := i) (e12 l v) hn hby hv (by omega)) (fun r149 hr149 => ?_)
    refine xCallI (N := 3) (v := bI (decide (48 ≤ r149 ∧ r149 ≤ 57))) (M2 := m_M_advance) (pc2 := 156) (ls2 := [some (eR 0), some (eI y)]) (st2 := []) (y := m_M_isBetween) (as := [some (eI r149), some (eI 48), some (eI 57)]) (w2 := ([mN (eUp (eUp P 16 l) 13 v), eA 0 600 bY], c)) rfl (n_between (by omega) (by omega) (by omega)) (fun r156 hr156 => ?_)
    have hz : r156 = 0 := (bI_1 hr156).2.2.mpr (decide_eq_false (by omega))
    refine xEqT (N := 1) (x := r156) (y := 0) (A := ev m_M_advance 229 [some (eR 0), some (eI y)] [] ([mN (eUp (eUp P 16 l) 13 v), eA 0 600 bY], c)) (B := ev m_M_advance 162 [some (eR 0), some (eI y)] [] ([mN (eUp (eUp P 16 l) 13 v), eA 0 600 bY], c)) rfl (wr_id (by omega) (by omega)) (show wr 0 = 0 by decide) (by omega) ?_
    refine xSeg (N := 1) (r := some (.inl none, ([mN (eUp (eUp P 16 l) 13 v), eA 0 600 bY], c))) rfl ?_
    exact hr l v hv hl
  | succ d ih =>
    intro i hi m l v hv hl hm hr
    have hb := hby i (by omega)
    have hbA : bAt B n i = (B i : Int) := if_pos (by omega)
    have hw : rnN B 2 (d + 1) i = if kd (B i) = 2 then rnN B 2 d (i + 1) else i := rfl
    have hw2 : vaN B (d + 1) i m = if kd (B i) = 2 then vaN B d (i + 1) (stV m (B i)) else m := rfl
    have e16v := e16 l v
    by_cases hk : kd (B i) = 2
    · rw [if_pos hk] at hw hw2
      have hk2 := kd_2.mp hk
      have hs : stV m (B i) < 1000000000 := by unfold stV; split <;> omega
      have hs2 : stV m (B i) = if 99999999 < m then m else 10 * m + B i - 48 := rfl
      have hq := fun l2 (h2 : l2 = ((stV m (B i) : Nat) : Int)) => ih (i + 1) (by omega) (stV m (B i)) l2 (v + 1) (by omega) h2 hs (fun l' v' hv' hl' => hr l' v' (by rw [hw]; exact hv') (by rw [hw2]; exact hl'))
      refine xCallWI (N := 4) (v := bAt B n i) (M2 := m_M_advance) (pc2 := 149) (ls2 := [some (eR 0), some (eI y)]) (st2 := []) (y := m_M_byteAt) (as := [some (eR 0), some (eI v)]) (w2 := ([mN (eUp (eUp P 16 l) 13 v), eA 0 600 bY], c)) rfl (n_byteAt (i := i) (e12 l v) hn hby hv (by omega)) (fun r149 hr149 => ?_)
      refine xCallI (N := 3) (v := bI (decide (48 ≤ r149 ∧ r149 ≤ 57))) (M2 := m_M_advance) (pc2 := 156) (ls2 := [some (eR 0), some (eI y)]) (st2 := []) (y := m_M_isBetween) (as := [some (eI r149), some (eI 48), some (eI 57)]) (w2 := ([mN (eUp (eUp P 16 l) 13 v), eA 0 600 bY], c)) rfl (n_between (by omega) (by omega) (by omega)) (fun r156 hr156 => ?_)
      have hz : r156 = 1 := (bI_1 hr156).2.1.mpr (decide_eq_true (by omega))
      refine xEqF (N := 1) (x := r156) (y := 0) (A := ev m_M_advance 229 [some (eR 0), some (eI y)] [] ([mN (eUp (eUp P 16 l) 13 v), eA 0 600 bY], c)) (B := ev m_M_advance 162 [some (eR 0), some (eI y)] [] ([mN (eUp (eUp P 16 l) 13 v), eA 0 600 bY], c)) rfl (wr_id (by omega) (by omega)) (show wr 0 = 0 by decide) (by omega) ?_
      refine xLt (N := 5) (x := 99999999) (y := l) (A := ev m_M_advance 172 [some (eR 0), some (eI y)] [eR 0] ([mN (eUp (eUp P 16 l) 13 v), eA 0 600 bY], c)) (B := ev m_M_advance 179 [some (eR 0), some (eI y)] [eR 0] ([mN (eUp (eUp P 16 l) 13 v), eA 0 600 bY], c)) rfl (show wr 99999999 = 99999999 by decide) (wr_id (by omega) (by omega)) (fun h169 => ?_) (fun h169 => ?_)
      · refine xSeg (N := 11) (r := ev m_M_advance 144 [some (eR 0), some (eI y)] [] ([mN (eUp (eUp (eUp (eUp P 16 l) 13 v) 16 l) 13 (v + 1)), eA 0 600 bY], c)) rfl ?_
        refine mN_ev (fun j _ _ => ?_) (hq (if 99999999 < l then l else 10 * l + B i - 48) (by rw [hs2]; split <;> split <;> omega))
        unfold eUp
        (repeat (first | omega | split)) <;> omega
      · refine xCallWI (N := 8) (v := bAt B n i) (M2 := m_M_advance) (pc2 := 191) (ls2 := [some (eR 0), some (eI y)]) (st2 := [eI (10 * l), eR 0]) (y := m_M_byteAt) (as := [some (eR 0), some (eI v)]) (w2 := ([mN (eUp (eUp P 16 l) 13 v), eA 0 600 bY], c)) rfl (n_byteAt (i := i) (e12 l v) hn hby hv (by omega)) (fun r191 hr191 => ?_)
        refine xSeg (N := 11) (r := ev m_M_advance 144 [some (eR 0), some (eI y)] [] ([mN (eUp (eUp (eUp (eUp P 16 l) 13 v) 16 (((10 * l) + r191) - 48)) 13 (v + 1)), eA 0 600 bY], c)) rfl ?_
        refine mN_ev (fun j _ _ => ?_) (hq (if 99999999 < l then l else 10 * l + B i - 48) (by rw [hs2]; split <;> split <;> omega))
        unfold eUp
        (repeat (first | omega | split)) <;> omega
    · rw [if_neg hk] at hw hw2
      have hk2 : ¬(48 ≤ B i ∧ B i ≤ 57) := fun h => hk (kd_2.mpr h)
      refine xCallWI (N := 4) (v := bAt B n i) (M2 := m_M_advance) (pc2 := 149) (ls2 := [some (eR 0), some (eI y)]) (st2 := []) (y := m_M_byteAt) (as := [some (eR 0), some (eI v)]) (w2 := ([mN (eUp (eUp P 16 l) 13 v), eA 0 600 bY], c)) rfl (n_byteAt (i := i) (e12 l v) hn hby hv (by omega)) (fun r149 hr149 => ?_)
      refine xCallI (N := 3) (v := bI (decide (48 ≤ r149 ∧ r149 ≤ 57))) (M2 := m_M_advance) (pc2 := 156) (ls2 := [some (eR 0), some (eI y)]) (st2 := []) (y := m_M_isBetween) (as := [some (eI r149), some (eI 48), some (eI 57)]) (w2 := ([mN (eUp (eUp P 16 l) 13 v), eA 0 600 bY], c)) rfl (n_between (by omega) (by omega) (by omega)) (fun r156 hr156 => ?_)
      have hz : r156 = 0 := (bI_1 hr156).2.2.mpr (decide_eq_false (by omega))
      refine xEqT (N := 1) (x := r156) (y := 0) (A := ev m_M_advance 229 [some (eR 0), some (eI y)] [] ([mN (eUp (eUp P 16 l) 13 v), eA 0 600 bY], c)) (B := ev m_M_advance 162 [some (eR 0), some (eI y)] [] ([mN (eUp (eUp P 16 l) 13 v), eA 0 600 bY], c)) rfl (wr_id (by omega) (by omega)) (show wr 0 = 0 by decide) (by omega) ?_
      refine xSeg (N := 1) (r := some (.inl none, ([mN (eUp (eUp P 16 l) 13 v), eA 0 600 bY], c))) rfl ?_
      exact hr l v (by rw [hw]; exact hv) (by rw [hw2]; exact hl)
