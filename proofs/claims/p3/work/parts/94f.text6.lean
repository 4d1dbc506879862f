/-! PURE: text: a hearing is added -/
def hrP (R : Nat → Nat) (h c j : Nat) : Nat → Nat := pu (pu (pu R (56 + h) c) (62 + h) j) 55 (h + 1)
theorem hrP_55 (R : Nat → Nat) (h c j : Nat) : hrP R h c j 55 = h + 1 := pu_s _ _ _
theorem hrP_lo (R : Nat → Nat) (h c j : Nat) {k : Nat} (hk : k < 55) : hrP R h c j k = R k := by
  unfold hrP
  rw [pu_n _ (by omega), pu_n _ (by omega), pu_n _ (by omega)]
theorem hrP_a (R : Nat → Nat) (h c j : Nat) {i : Nat} (hi : i < 6) : hrP R h c j (56 + i) = if i = h then c else R (56 + i) := by
  unfold hrP
  rw [pu_n _ (by omega), pu_n _ (by omega)]
  by_cases q : i = h
  · rw [q, if_pos rfl, pu_s]
  · rw [if_neg q, pu_n _ (by omega)]
theorem hrP_b (R : Nat → Nat) {h : Nat} (hh : h < 6) (c j : Nat) {i : Nat} (hi : i < 6) : hrP R h c j (62 + i) = if i = h then j else R (62 + i) := by
  unfold hrP
  rw [pu_n _ (by omega)]
  by_cases q : i = h
  · rw [q, if_pos rfl, pu_s]
  · rw [if_neg q, pu_n _ (by omega), pu_n _ (by omega)]
theorem X_addH (F : Nat) {h : Nat} (u : St) (h15 : u.1 15 = nI h) (hh : h < 6) (x y : Int32) : pX0_addHearing F 3 x y u = some (1, stf (sta (sta u 50 (nI h) x) 51 (nI h) y) 15 (nI (h + 1))) := by
  have e : pX0_addHearing F 3 x y u = if (u.1 15) < 6 then gd (inb (u.1 15) 6) (vl (sta u 50 (u.1 15) x) (fun (u1 : St) => gd (inb (u1.1 15) 6) (vl (sta u1 51 (u1.1 15) y) (fun (u2 : St) => vl (stf u2 15 ((u2.1 15) + 1)) (fun (u3 : St) => some (1, u3)))))) else some (0, u) := rfl
  rw [e, h15, if_pos (by rw [L6]; exact ylt hh (by omega)), gd_i (by omega) (by omega), vl_e, sta_1, h15, gd_i (by omega) (by omega), vl_e, vl_e, sta_1, sta_1, h15, nI_s]
theorem CtX.hear {c0 jn h x y : Nat} {R : Nat → Nat} {u : St} (hC : CtX 3 c0 jn R u) (h55 : R 55 = h) (b : R 46 ≤ 4) (hc : c0 ≤ 4) (hj : jn ≤ 3) (hh : h < 6) : CtX 3 c0 jn (hrP R h x y) (stf (sta (sta u 50 (nI h) (nI x)) 51 (nI h) (nI y)) 15 (nI (h + 1))) := by
  obtain ⟨h1, h2, h3, h4, h5, h6, h7, h8, h9⟩ := hC
  have a : ∀ k, k ≠ 50 → k ≠ 51 → (stf (sta (sta u 50 (nI h) (nI x)) 51 (nI h) (nI y)) 15 (nI (h + 1))).2 k = u.2 k := fun k k1 k2 => by
    show (sta (sta u 50 (nI h) (nI x)) 51 (nI h) (nI y)).2 k = u.2 k
    rw [sta_m _ _ _ k2, sta_m _ _ _ k1]
  refine ⟨(sf_n _ _ _ (by omega)).trans h1, (sf_n _ _ _ (by omega)).trans h2, ((sf_n _ _ _ (by omega)).trans h3).trans (by rw [hrP_lo R h x y (by omega)]), (sf_k _ _ _).trans (by rw [hrP_55]), fun f hf => ?_, fun i hi => ?_, fun i hi => ?_, fun i hi => ?_, fun i hi => ?_⟩
  · rw [a _ (by omega) (by omega), a _ (by omega) (by omega), a _ (by omega) (by omega), hrP_lo R h x y (by omega), hrP_lo R h x y (by omega), hrP_lo R h x y (by omega)]
    exact h5 f hf
  · rw [a _ (by omega) (by omega), a _ (by omega) (by omega), a _ (by omega) (by omega), a _ (by omega) (by omega), hrP_lo R h x y (by omega), hrP_lo R h x y (by omega), hrP_lo R h x y (by omega), hrP_lo R h x y (by omega)]
    exact h6 i hi
  · rw [a _ (by omega) (by omega), a _ (by omega) (by omega), hrP_lo R h x y (by omega), hrP_lo R h x y (by omega)]
    exact h7 i hi
  · rw [hrP_lo R h x y (by omega)] at hi
    rw [a _ (by omega) (by omega), a _ (by omega) (by omega), hrP_lo R h x y (by omega), hrP_lo R h x y (by omega)]
    exact h8 i hi
  · rw [hrP_55] at hi
    rw [hrP_a R h x y (by omega), hrP_b R hh x y (by omega)]
    have w1 : (stf (sta (sta u 50 (nI h) (nI x)) 51 (nI h) (nI y)) 15 (nI (h + 1))).2 50 i = if i = h then nI x else u.2 50 i := by
      show (sta (sta u 50 (nI h) (nI x)) 51 (nI h) (nI y)).2 50 i = _
      rw [sta_m _ _ _ (by omega), sta_h _ _ (by omega)]
    have w2 : (stf (sta (sta u 50 (nI h) (nI x)) 51 (nI h) (nI y)) 15 (nI (h + 1))).2 51 i = if i = h then nI y else u.2 51 i := by
      show (sta (sta u 50 (nI h) (nI x)) 51 (nI h) (nI y)).2 51 i = _
      rw [sta_h _ _ (by omega), sta_m _ _ _ (by omega)]
    refine ⟨w1.trans ?_, w2.trans ?_⟩
    · by_cases q : i = h
      · rw [if_pos q, if_pos q]
      · rw [if_neg q, if_neg q]
        exact (h9 i (by omega)).1
    · by_cases q : i = h
      · rw [if_pos q, if_pos q]
      · rw [if_neg q, if_neg q]
        exact (h9 i (by omega)).2
theorem BD.hear {R : Nat → Nat} {rc rj h x y : Nat} (hB : BD R rc rj) (h55 : R 55 = h) (hh : h < 6) (hx : x ≤ 3) (hy : y ≤ 2) (hc : rc ≤ 4) (hj : rj ≤ 3) : BD (hrP R h x y) rc rj := by
  obtain ⟨b1, b2, b3, b4, b5, b6, b7⟩ := hB
  refine ⟨by rw [hrP_lo R h x y (by omega)]; exact b1, by rw [hrP_55]; omega, fun f hf => ?_, fun k k1 k2 => ?_, fun i hi => ?_, fun i hi => ?_, fun i hi => ?_⟩
  · rw [hrP_lo R h x y (by omega), hrP_lo R h x y (by omega), hrP_lo R h x y (by omega)]
    exact b3 f hf
  · rw [hrP_lo R h x y (by omega)]
    exact b4 k k1 k2
  · rw [hrP_lo R h x y (by omega), hrP_lo R h x y (by omega)]
    exact b5 i hi
  · rw [hrP_lo R h x y (by omega)] at hi
    rw [hrP_lo R h x y (by omega), hrP_lo R h x y (by omega)]
    exact b6 i hi
  · rw [hrP_55] at hi
    rw [hrP_a R h x y (by omega), hrP_b R hh x y (by omega)]
    by_cases q : i = h
    · rw [if_pos q, if_pos q]
      exact ⟨hx, hy⟩
    · rw [if_neg q, if_neg q]
      exact b7 i (by omega)
theorem HI.hear {R : Nat → Nat} {h5 h6 h x y : Nat} (hI : HI R h5 h6) (h55 : R 55 = h) (hh : h < 6) (hx : x ≤ 3) (hy : y ≤ 2) : HI (hrP R h x y) (max h5 (x + 1)) (max h6 (y + 1)) := by
  obtain ⟨b1, b2, b3, b4, b5⟩ := hI
  refine ⟨by omega, by omega, fun i hi => ?_, Or.inr ?_, Or.inr ?_⟩
  · rw [hrP_55] at hi
    rw [hrP_a R h x y (by omega), hrP_b R hh x y (by omega)]
    by_cases q : i = h
    · rw [if_pos q, if_pos q]
      omega
    · rw [if_neg q, if_neg q]
      have := b3 i (by omega)
      omega
  · rw [hrP_55]
    by_cases q : h5 ≤ x + 1
    · exact ⟨h, by omega, by rw [hrP_a R h x y (by omega), if_pos rfl]; omega⟩
    · rcases b4 with z | ⟨i, z1, z2⟩
      · omega
      · exact ⟨i, by omega, by rw [hrP_a R h x y (by omega), if_neg (by omega)]; omega⟩
  · rw [hrP_55]
    by_cases q : h6 ≤ y + 1
    · exact ⟨h, by omega, by rw [hrP_b R hh x y (by omega), if_pos rfl]; omega⟩
    · rcases b5 with z | ⟨i, z1, z2⟩
      · omega
      · exact ⟨i, by omega, by rw [hrP_b R hh x y (by omega), if_neg (by omega)]; omega⟩
/-- one hearing more, on both sides -/
theorem TR.hear {b : Nat → Nat} {n : Nat} {R : Nat → Nat} {rc rj h5 h6 h x y : Nat} {u v u1 v1 : St} (hT : TR b n R rc rj 1 h5 h6 u v) (h55 : R 55 = h) (hh : h < 6) (hx : x ≤ 3) (hy : y ≤ 2) (e : ftX u u1) (f : ftM v v1) : TR b n (hrP R h x y) rc rj 1 (max h5 (x + 1)) (max h6 (y + 1)) (stf (sta (sta u1 50 (nI h) (nI x)) 51 (nI h) (nI y)) 15 (nI (h + 1))) (dkW v1 h x y h5 h6) := by
  obtain ⟨t1, t2, ⟨q1, q2, q3, q4⟩, t4, t5, t6, ⟨t7, t8⟩, t9, t10, t11, t12, t13, t14⟩ := hT.ft e f
  refine ⟨((((FrX.rf).st (by omega) _ _).st (by omega) _ _).sf (by omega) _).tp t1, (dkW_f FrM.rf h x y h5 h6).tp t2, ⟨q1, q2, q3, fun q => by omega⟩, t4.hear h55 hh hx hy q1 q2, t5.hear h55 hh hx hy, t6.hear h55 t4.1 q1 q2 hh, ⟨(sf_n _ _ _ (by omega)).trans t7, (sf_n _ _ _ (by omega)).trans t8⟩, fun k hk => ?_, (dkW_9 _ _ _ _ _ _ (by omega) (by omega)).trans t10, (dkW_9 _ _ _ _ _ _ (by omega) (by omega)).trans t11, (dkW_9 _ _ _ _ _ _ (by omega) (by omega)).trans t12, ?_, ?_⟩
  · unfold dkW hrP
    rw [sta_h _ _ (by omega)]
    refine puI ?_ _ Iff.rfl
    rw [sta_h _ _ (by omega)]
    refine puI ?_ _ Iff.rfl
    rw [sta_h _ _ (by omega)]
    exact puI (t9 k hk) _ Iff.rfl
  · unfold dkW
    rw [sta_1, sta_1, sta_1, sf_n _ _ _ (by omega), sf_k]
  · unfold dkW
    rw [sta_1, sta_1, sta_1, sf_k]
