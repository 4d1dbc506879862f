/-! PURE: text: a draught is added -/
def drP (R : Nat → Nat) (h c j : Nat) : Nat → Nat := pu (pu (pu R (47 + h) c) (51 + h) j) 46 (h + 1)
theorem drP_lo (R : Nat → Nat) {h : Nat} (hh : h < 4) (c j : Nat) {k : Nat} (hk : k < 46 ∨ 55 ≤ k) : drP R h c j k = R k := by
  unfold drP
  rw [pu_n _ (by omega), pu_n _ (by omega), pu_n _ (by omega)]
theorem drP_46 (R : Nat → Nat) (h c j : Nat) : drP R h c j 46 = h + 1 := pu_s _ _ _
theorem drP_a (R : Nat → Nat) (h c j : Nat) {i : Nat} (hi : i < 4) : drP R h c j (47 + i) = if i = h then c else R (47 + i) := by
  unfold drP
  rw [pu_n _ (by omega), pu_n _ (by omega)]
  by_cases q : i = h
  · rw [q, if_pos rfl, pu_s]
  · rw [if_neg q, pu_n _ (by omega)]
theorem drP_b (R : Nat → Nat) {h : Nat} (hh : h < 4) (c j : Nat) {i : Nat} (hi : i < 4) : drP R h c j (51 + i) = if i = h then j else R (51 + i) := by
  unfold drP
  rw [pu_n _ (by omega)]
  by_cases q : i = h
  · rw [q, if_pos rfl, pu_s]
  · rw [if_neg q, pu_n _ (by omega), pu_n _ (by omega)]
theorem X_addD (F : Nat) {h : Nat} (u : St) (h14 : u.1 14 = nI h) (hh : h < 4) (x y : Int32) : pX0_addDraught F 3 x y u = some (1, stf (sta (sta u 48 (nI h) x) 49 (nI h) y) 14 (nI (h + 1))) := by
  have e : pX0_addDraught F 3 x y u = if (u.1 14) < 4 then gd (inb (u.1 14) 4) (vl (sta u 48 (u.1 14) x) (fun (u1 : St) => gd (inb (u1.1 14) 4) (vl (sta u1 49 (u1.1 14) y) (fun (u2 : St) => vl (stf u2 14 ((u2.1 14) + 1)) (fun (u3 : St) => some (1, u3)))))) else some (0, u) := rfl
  rw [e, h14, if_pos (by rw [L4]; exact ylt hh (by omega)), gd_i (by omega) (by omega), vl_e, sta_1, h14, gd_i (by omega) (by omega), vl_e, vl_e, sta_1, sta_1, h14, nI_s]
theorem CtX.draught {c0 jn d x y : Nat} {R : Nat → Nat} {u : St} (hC : CtX 3 c0 jn R u) (hd : R 46 = d) (b : d < 4) (b2 : R 55 ≤ 6) (hc : c0 ≤ 4) (hj : jn ≤ 3) : CtX 3 c0 jn (drP R d x y) (stf (sta (sta u 48 (nI d) (nI x)) 49 (nI d) (nI y)) 14 (nI (d + 1))) := by
  obtain ⟨h1, h2, h3, h4, h5, h6, h7, h8, h9⟩ := hC
  have a : ∀ k, k ≠ 48 → k ≠ 49 → (stf (sta (sta u 48 (nI d) (nI x)) 49 (nI d) (nI y)) 14 (nI (d + 1))).2 k = u.2 k := fun k k1 k2 => by
    show (sta (sta u 48 (nI d) (nI x)) 49 (nI d) (nI y)).2 k = u.2 k
    rw [sta_m _ _ _ k2, sta_m _ _ _ k1]
  have lo : ∀ {k : Nat}, (k < 46 ∨ 55 ≤ k) → drP R d x y k = R k := fun hk => drP_lo R b x y hk
  refine ⟨(sf_n _ _ _ (by omega)).trans h1, (sf_n _ _ _ (by omega)).trans h2, (sf_k _ _ _).trans (by rw [drP_46]), ((sf_n _ _ _ (by omega)).trans h4).trans (by rw [lo (by omega)]), fun f hf => ?_, fun i hi => ?_, fun i hi => ?_, fun i hi => ?_, fun i hi => ?_⟩
  · rw [a _ (by omega) (by omega), a _ (by omega) (by omega), a _ (by omega) (by omega), lo (by omega), lo (by omega), lo (by omega)]
    exact h5 f hf
  · rw [a _ (by omega) (by omega), a _ (by omega) (by omega), a _ (by omega) (by omega), a _ (by omega) (by omega), lo (by omega), lo (by omega), lo (by omega), lo (by omega)]
    exact h6 i hi
  · rw [a _ (by omega) (by omega), a _ (by omega) (by omega), lo (by omega), lo (by omega)]
    exact h7 i hi
  · rw [drP_46] at hi
    rw [drP_a R d x y (by omega), drP_b R b x y (by omega)]
    have w1 : (stf (sta (sta u 48 (nI d) (nI x)) 49 (nI d) (nI y)) 14 (nI (d + 1))).2 48 i = if i = d then nI x else u.2 48 i := by
      show (sta (sta u 48 (nI d) (nI x)) 49 (nI d) (nI y)).2 48 i = _
      rw [sta_m _ _ _ (by omega), sta_h _ _ (by omega)]
    have w2 : (stf (sta (sta u 48 (nI d) (nI x)) 49 (nI d) (nI y)) 14 (nI (d + 1))).2 49 i = if i = d then nI y else u.2 49 i := by
      show (sta (sta u 48 (nI d) (nI x)) 49 (nI d) (nI y)).2 49 i = _
      rw [sta_h _ _ (by omega), sta_m _ _ _ (by omega)]
    refine ⟨w1.trans ?_, w2.trans ?_⟩
    · by_cases q : i = d
      · rw [if_pos q, if_pos q]
      · rw [if_neg q, if_neg q]
        exact (h8 i (by omega)).1
    · by_cases q : i = d
      · rw [if_pos q, if_pos q]
      · rw [if_neg q, if_neg q]
        exact (h8 i (by omega)).2
  · rw [lo (by omega)] at hi
    rw [a _ (by omega) (by omega), a _ (by omega) (by omega), lo (by omega), lo (by omega)]
    exact h9 i hi
theorem BD.draught {R : Nat → Nat} {rc rj d x y : Nat} (hB : BD R rc rj) (hd : R 46 = d) (b : d < 4) (hx : x ≤ 20) (hy : 1 ≤ y ∧ y ≤ 9) (hc : rc ≤ 4) (hj : rj ≤ 3) : BD (drP R d x y) rc rj := by
  obtain ⟨b1, b2, b3, b4, b5, b6, b7⟩ := hB
  have lo : ∀ {k : Nat}, (k < 46 ∨ 55 ≤ k) → drP R d x y k = R k := fun hk => drP_lo R b x y hk
  refine ⟨by rw [drP_46]; omega, by rw [lo (by omega)]; exact b2, fun f hf => ?_, fun k k1 k2 => ?_, fun i hi => ?_, fun i hi => ?_, fun i hi => ?_⟩
  · rw [lo (by omega), lo (by omega), lo (by omega)]
    exact b3 f hf
  · rw [lo (by omega)]
    exact b4 k k1 k2
  · rw [lo (by omega), lo (by omega)]
    exact b5 i hi
  · rw [drP_46] at hi
    rw [drP_a R d x y (by omega), drP_b R b x y (by omega)]
    by_cases q : i = d
    · rw [if_pos q, if_pos q]
      exact ⟨hx, hy⟩
    · rw [if_neg q, if_neg q]
      exact b6 i (by omega)
  · rw [lo (by omega)] at hi
    rw [lo (by omega), lo (by omega)]
    exact b7 i hi
def drW (w : St) (d : Nat) (x : Int32) : St := sta (sta w 2 (nI (51 + d)) x) 2 (nI 46) (nI (d + 1))
theorem Bad.dr {k q : Nat} {u w : St} (h : Bad k q u w) (d : Nat) (x : Int32) : Bad k q u (drW w d x) := h
theorem drW_f {v w : St} (f : FrM v w) (d : Nat) (x : Int32) : FrM v (drW w d x) := ((f.st _ _).st _ _)
theorem M_draught (F : Nat) {d : Nat} (hd : d < 4) (v w1 w2 : St) {x1 x2 : Int32} (h46 : v.2 2 46 = nI d) (m1 : pX7_number F 0 20 v = some (x1, w1)) (e1 : w1.2 = v.2) (m2 : pX7_number F 1 9 (sta w1 2 (nI (47 + d)) x1) = some (x2, w2)) (e2 : w2.2 = (sta w1 2 (nI (47 + d)) x1).2) : pX7_readMore F (nI 9) v = some ((), drW w2 d x2) := by
  have t46 : Int32.toNatClampNeg 46 = 46 := by decide +kernel
  have g46 : inb 46 68 = true := by decide +kernel
  have z1 : (sta w1 2 (nI (47 + d)) x1).2 2 46 = nI d := by rw [sta_h _ _ (by omega), if_neg (by omega), e1, h46]
  have z2 : (sta w2 2 (nI (51 + d)) x2).2 2 46 = nI d := by rw [sta_h _ _ (by omega), if_neg (by omega), e2, z1]
  unfold pX7_readMore
  rw [L8, ifeq (by omega) (by omega), if_neg (by omega), show (if nI 9 = 9 then (_ : Option (Unit × St)) else _) = _ from if_pos rfl, g46, gd_true, m1, bd_s, t46, h46, L47, nI_add, gd_i (by omega) (by omega), vl_e, gd_true, m2, bd_s, z1, L51, nI_add, gd_i (by omega) (by omega), vl_e, gd_true, gd_true, z2, vl_e, nI_s, L46]
  rfl
