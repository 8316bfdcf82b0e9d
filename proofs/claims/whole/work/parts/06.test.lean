def sU (σ : Nat → Nat → Int) (c i : Nat) (v : Int) : Nat → Nat → Int := fun d => bif Nat.beq d c then eUp (σ c) i v else σ d
def winW (σ : Nat → Nat → Int) : List eC := [eO 4 [eR 1, eR 11, eR 15, eI (σ 0 0), eI (σ 1 0), eR 16, eR 17, eR 18, eI (σ 2 0), eI (σ 3 0), eI (σ 4 0), eR 19],
  eO 0 [eI (σ 5 0), eI (σ 6 0), eR 2, eR 3, eI (σ 7 0), eR 4, eR 5, eR 6, eR 7, eR 8, eR 9, eR 10],
  eA 1 36 (σ 10), eA 0 36 (σ 11), eA 0 24 (σ 12), eA 0 24 (σ 13), eA 1 24 (σ 14), eA 0 36 (σ 15), eA 0 36 (σ 16), eA 0 144 (σ 17), eA 0 144 (σ 18),
  eO 5 [eI (σ 8 0), eR 12, eR 13, eR 14], eA 0 30 (σ 19), eA 0 180 (σ 20), eA 0 26 (σ 21),
  eA 0 24 (σ 22), eA 0 24 (σ 23), eA 0 24 (σ 24), eA 0 576 (σ 25), eA 0 144 (σ 26)]
set_option maxRecDepth 10000 in
theorem q_W_findEmptySlot_0 (σ : Nat → Nat → Int) (u n : Nat) : ev m_W_findEmptySlot 0 [some (eR 0)] [] (winW σ, (u, n)) = ev m_W_findEmptySlot 2 [some (eR 0), some (eI 0)] [] (winW σ, (u, n)) := eSeg (fun p => Nat.beq p 2) 30 rfl
set_option maxRecDepth 10000 in
theorem q_W_findEmptySlot_2 (σ : Nat → Nat → Int) (i : Int) (u n : Nat) : ev m_W_findEmptySlot 2 [some (eR 0), some (eI i)] [] (winW σ, (u, n)) = if wr i < wr (σ 7 0) then (if 0 ≤ wr i ∧ wr i < (24 : Nat) then (if wr (σ 22 (wr i).toNat) = wr 0 then some (.inl (some (eI i)), (winW σ, (u, n))) else ev m_W_findEmptySlot 2 [some (eR 0), some (eI (i + 1))] [] (winW σ, (u, n))) else none) else some (.inl (some (eI (-1))), (winW σ, (u, n))) := eSeg (fun p => Nat.beq p 2) 30 rfl
