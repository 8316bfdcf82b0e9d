/-! A walk that ends somewhere: rows for it. -/
def Rs (x : eRes) (Q : (Option eV ⊕ Nat) × eW → Prop) : Prop := ∃ r, x = some r ∧ Q r
theorem rOf {x y : eRes} {Q : (Option eV ⊕ Nat) × eW → Prop} (h : ∀ R, y = R → x = R) (hy : Rs y Q) : Rs x Q := by
  rw [h y rfl]
  exact hy
theorem rEnd {Q : (Option eV ⊕ Nat) × eW → Prop} {o : Option eV ⊕ Nat} {w : eW} (h : Q (o, w)) : Rs (some (o, w)) Q := ⟨_, rfl, h⟩
section
variable {N M pc M2 pc2 y : Nat} {ls ls2 as : eL} {st st2 : List eV} {w w3 : eW} {V : List eC} {d : Nat × Nat} {A B : eRes} {Q : (Option eV ⊕ Nat) × eW → Prop}
theorem rLt {x y a b : Int} (h : evS N M pc ls st w = if wr x < wr y then A else B) (hx : wr x = a) (hy : wr y = b) (hA : a < b → Rs A Q) (hB : b ≤ a → Rs B Q) : Rs (ev M pc ls st w) Q := by
  by_cases hc : a < b
  · exact rOf (fun R hR => xLtT h hx hy hc hR) (hA hc)
  · exact rOf (fun R hR => xLtF h hx hy (by omega) hR) (hB (by omega))
theorem rEq {x y a b : Int} (h : evS N M pc ls st w = if wr x = wr y then A else B) (hx : wr x = a) (hy : wr y = b) (hA : a = b → Rs A Q) (hB : a ≠ b → Rs B Q) : Rs (ev M pc ls st w) Q := by
  by_cases hc : a = b
  · exact rOf (fun R hR => xEqT h hx hy hc hR) (hA hc)
  · exact rOf (fun R hR => xEqF h hx hy hc hR) (hB hc)
theorem rPutV {a b r : Nat} {fs : List eV} {v : eV} {z : Bool} (h : evS N M pc ls st w = ePutf ev M2 pc2 a b z ls2 (v :: eR r :: st2) (V, d)) (hV : eNth V r = some (eO a fs)) (hb : Nat.blt b (eLen fs) = true) (hz : eKind z v = true) (hg : ∀ V2, sb V V2 [r] → eNth V2 r = some (eO a (eSet fs b v)) → Rs (ev M2 (pc2 + 3) ls2 st2 (V2, d)) Q) : Rs (ev M pc ls st w) Q := by
  obtain ⟨s1, s2⟩ := sb_set (c := eO a (eSet fs b v)) hV
  refine rOf (fun R hR => xSeg h ?_) (hg _ s1 s2)
  unfold ePutf
  dsimp only
  rw [hV]
  dsimp only
  rw [Nat.beq_refl, hb, hz, Bool.true_and, Bool.true_and, cond_true]
  exact hR
theorem rStV {t n r k : Nat} {f : Nat → Int} {i v : Int} {ok : Nat → Bool} (h : evS N M pc ls st w = eASt ev M2 pc2 ls2 i v r st2 (V, d) ok) (hV : eNth V r = some (eA t n f)) (ht : ok t = true) (hi : wr i = (k : Int)) (hk : k < n) (hg : ∀ V2, sb V V2 [r] → eNth V2 r = some (eA t n (eUp f k v)) → Rs (ev M2 (pc2 + 1) ls2 st2 (V2, d)) Q) : Rs (ev M pc ls st w) Q := by
  obtain ⟨s1, s2⟩ := sb_set (c := eA t n (eUp f k v)) hV
  refine rOf (fun R hR => xSeg h ?_) (hg _ s1 s2)
  unfold eASt
  dsimp only
  rw [hV]
  dsimp only
  rw [ht, cond_true, if_pos ⟨by omega, by omega⟩, hi, Int.toNat_natCast]
  exact hR
theorem rQStV {n r k v cy : Nat} {f : Nat → Option Nat} {fs : List eV} {i : Int} (h : evS N M pc ls st w = eQSt ev cy M2 pc2 ls2 (eR v :: eI i :: eR r :: st2) (V, d)) (hV : eNth V r = some (eQ n f)) (hv : eNth V v = some (eO cy fs)) (hi : wr i = (k : Int)) (hk : k < n) (hg : ∀ V2, sb V V2 [r] → eNth V2 r = some (eQ n (eUp f k (some v))) → Rs (ev M2 (pc2 + 1) ls2 st2 (V2, d)) Q) : Rs (ev M pc ls st w) Q := by
  obtain ⟨s1, s2⟩ := sb_set (c := eQ n (eUp f k (some v))) hV
  refine rOf (fun R hR => xSeg h ?_) (hg _ s1 s2)
  unfold eQSt
  dsimp only
  rw [hV]
  dsimp only
  rw [hv]
  dsimp only
  rw [Nat.beq_refl, cond_true, if_pos ⟨by omega, by omega⟩, hi, Int.toNat_natCast]
  exact hR
theorem xCallA1 {R : eRes} {r n cy dM dy : Nat} {fs : List eV} {bs : List eV} {st9 : List eV} {v : eV} {cat : Nat → Option (Option (Nat × Nat))} (h : evS N M pc ls st w = eCallW ev ev dM dy cy M2 pc2 y n ls2 st9 (V, d) cat) (hT : eTR n st9 [] = some (eR r :: bs, st2)) (hV : eNth V r = some (eO cy fs)) (hc : (eAll1 (eR r :: bs) && (Nat.ble (eCats st2) 8 && Nat.blt dy dM)) = true) (hq : ev y 0 (eArgs (eR r :: bs)) [] (V, d) = some (.inl (some v), w3)) (hg : ev M2 (pc2 + 3) ls2 (v :: st2) w3 = R) : ev M pc ls st w = R := xCallA h hT hV hc hq hg
theorem xCallA0 {R : eRes} {r n cy dM dy : Nat} {fs : List eV} {bs : List eV} {st9 : List eV} {cat : Nat → Option (Option (Nat × Nat))} (h : evS N M pc ls st w = eCallW ev ev dM dy cy M2 pc2 y n ls2 st9 (V, d) cat) (hT : eTR n st9 [] = some (eR r :: bs, st2)) (hV : eNth V r = some (eO cy fs)) (hc : (eAll1 (eR r :: bs) && (Nat.ble (eCats st2) 8 && Nat.blt dy dM)) = true) (hq : ev y 0 (eArgs (eR r :: bs)) [] (V, d) = some (.inl none, w3)) (hg : ev M2 (pc2 + 3) ls2 st2 w3 = R) : ev M pc ls st w = R := xCallA h hT hV hc hq hg
theorem xCallAE {R : eRes} {r n dM dy cy E : Nat} {fs : List eV} {bs : List eV} {st9 : List eV} (h : evS N M pc ls st w = eCallW ev ev dM dy cy M2 pc2 y n ls2 st9 (V, d) (eCat2 M2 pc2)) (hT : eTR n st9 [] = some (eR r :: bs, st2)) (hV : eNth V r = some (eO cy fs)) (hc : (eAll1 (eR r :: bs) && (Nat.ble (eCats st2) 8 && Nat.blt dy dM)) = true) (hq : ev y 0 (eArgs (eR r :: bs)) [] (V, d) = some (.inr E, w3)) (he : eCat2 M2 pc2 E = none) (hg : some (.inr E, w3) = R) : ev M pc ls st w = R := xCallA h hT hV hc hq (by
  show (match eCat2 M2 pc2 E with
    | none => some (.inr E, w3)
    | some none => none
    | some (some (_, p)) => ev M2 p [] [] w3) = R
  rw [he]
  exact hg)
theorem xCallAC {R : eRes} {r n dM dy cy E k p : Nat} {fs : List eV} {bs : List eV} {st9 : List eV} (h : evS N M pc ls st w = eCallW ev ev dM dy cy M2 pc2 y n ls2 st9 (V, d) (eCat2 M2 pc2)) (hT : eTR n st9 [] = some (eR r :: bs, st2)) (hV : eNth V r = some (eO cy fs)) (hc : (eAll1 (eR r :: bs) && (Nat.ble (eCats st2) 8 && Nat.blt dy dM)) = true) (hq : ev y 0 (eArgs (eR r :: bs)) [] (V, d) = some (.inr E, w3)) (he : eCat2 M2 pc2 E = some (some (k, p))) (hg : ev M2 p [] [] w3 = R) : ev M pc ls st w = R := xCallA h hT hV hc hq (by
  show (match eCat2 M2 pc2 E with
    | none => some (.inr E, w3)
    | some none => none
    | some (some (_, p)) => ev M2 p [] [] w3) = R
  rw [he]
  exact hg)
theorem xCallB0 {R : eRes} {r n cy dM dy : Nat} {fs : List eV} {bs : List eV} {st9 : List eV} (h : evS N M pc ls st w = eCallI ev ev dM dy cy M2 pc2 y n ls2 st9 (V, d)) (hT : eTR n st9 [] = some (eR r :: bs, st2)) (hV : eNth V r = some (eO cy fs)) (hc : (eAll1 (eR r :: bs) && (Nat.ble (eCats st2) 8 && Nat.blt dy dM)) = true) (hq : ev y 0 (eArgs (eR r :: bs)) [] (V, d) = some (.inl none, w3)) (hg : ev M2 (pc2 + 3) ls2 st2 w3 = R) : ev M pc ls st w = R := xCallB h hT hV hc hq hg
theorem xCallB1 {R : eRes} {r n cy dM dy : Nat} {fs : List eV} {bs : List eV} {st9 : List eV} {v : eV} (h : evS N M pc ls st w = eCallI ev ev dM dy cy M2 pc2 y n ls2 st9 (V, d)) (hT : eTR n st9 [] = some (eR r :: bs, st2)) (hV : eNth V r = some (eO cy fs)) (hc : (eAll1 (eR r :: bs) && (Nat.ble (eCats st2) 8 && Nat.blt dy dM)) = true) (hq : ev y 0 (eArgs (eR r :: bs)) [] (V, d) = some (.inl (some v), w3)) (hg : ev M2 (pc2 + 3) ls2 (v :: st2) w3 = R) : ev M pc ls st w = R := xCallB h hT hV hc hq hg
/-- a new object -/
theorem rNewV {a : Nat} (h : evS N M pc ls st w = ev M2 pc2 ls2 (eR (eLen V) :: st2) (V ++ [eO a (eDefs a)], d)) (hg : ∀ V2 b, V2 = V ++ [eO a (eDefs a)] → b = V.length → Rs (ev M2 pc2 ls2 (eR b :: st2) (V2, d)) Q) : Rs (ev M pc ls st w) Q := by
  refine rOf (fun R hR => xSeg h hR) ?_
  rw [eLen_eq]
  exact hg _ _ rfl rfl
end
