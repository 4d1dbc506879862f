/-! PURE: count -/
theorem FK.tr {a b x y : Int32} (h : FK x y) (e : a = x) (f : b = y) : FK a b := by
  rw [e, f]
  exact h
theorem M_countL (F : Nat) (hF : 80 ≤ F) (J : Int32 → Int32 → St → Option (Int32 × St)) (v : St) {c : Nat} {P : Nat → Nat} (hc : c ≤ 4) (h0 : v.1 0 = nI c) (hM : PgM 0 P v) : lq3 (bX7_count_7 F J) F 0 0 0 v = J (nI (sm (fun i => P (16 + i)) (2 * c))) (nI (sm (fun i => P (28 + i)) c)) v := by
  refine lq3_up (n := c) (I := fun i x y w => x = nI (sm (fun i => P (16 + i)) (2 * i)) ∧ y = nI (sm (fun i => P (28 + i)) i) ∧ w = v) (Q := fun o => o = J (nI (sm (fun i => P (16 + i)) (2 * c))) (nI (sm (fun i => P (28 + i)) c)) v) ?_ ?_ c 0 F 0 0 v (by omega) (by omega) ⟨rfl, rfl, rfl⟩
  · rintro s x y w ⟨rfl, rfl, rfl⟩
    unfold bX7_count_7
    rw [h0, if_pos (yle (Nat.le_refl _) (by omega))]
  · rintro s i x y w hi ⟨rfl, rfl, rfl⟩
    refine Or.inr ⟨nI (sm (fun i => P (16 + i)) (2 * (i + 1))), nI (sm (fun i => P (28 + i)) (i + 1)), w, ?_, rfl, rfl, rfl⟩
    unfold bX7_count_7
    rw [h0, if_neg (nle hi (by omega)), tm2, at16, at28, nI_s, nI_s, gd_i (by omega) (by omega), gd_i (by omega) (by omega), vl_e, gd_i (by omega) (by omega), vl_e, cl (by omega), cl (by omega), cl (by omega), hM.g (by omega), hM.g (by omega), hM.g (by omega), nI_add, nI_add, nI_add, show 2 * (i + 1) = 2 * i + 1 + 1 by omega, sm, sm, sm, show 16 + 2 * i + 1 = 16 + (2 * i + 1) by omega, Nat.add_assoc]
theorem step_count {u v : St} (h : RR u v) (x0 : Int32) : ∃ (r : Int32) (u' v' : St), pX6_count LF x0 u = some (r, u') ∧ pX7_count LF x0 v = some (r, v') ∧ RR u' v' := by
  obtain ⟨c, jn, P, ⟨c1, c2, c3, hX, c5, c6, c7⟩, i0, i1, ⟨n, n1, n2, n3, -⟩, ⟨m, m1, m2, m3, -⟩, hw, htn, hsh, hc⟩ := id h
  obtain ⟨y1, y2, y3, y4, y5, y6, -⟩ := id hX
  have hLF : 80 ≤ LF := by decide
  have y1' : u.1 0 = nI c := y1
  have t0 : Int32.toNatClampNeg 0 = 0 := by decide +kernel
  have t1 : Int32.toNatClampNeg 1 = 1 := by decide +kernel
  have b02 : inb 0 2 = true := by decide +kernel
  have b12 : inb 1 2 = true := by decide +kernel
  have b04 : inb 0 4 = true := by decide +kernel
  have hMc : pX7_count LF x0 v = jX7_count_65 LF x0 (nI (sm (fun i => P (16 + i)) (2 * c))) (nI (sm (fun i => P (28 + i)) c)) v := by
    unfold pX7_count
    rw [jn_e, M_countL LF hLF _ v c1 c5 c7]
  rw [hMc]
  unfold pX6_count jX7_count_65
  by_cases q0 : x0 = 0
  · rw [if_pos q0, if_pos q0, n2, n3]; exact ⟨_, _, _, rfl, rfl, h⟩
  rw [if_neg q0, if_neg q0]
  by_cases q1 : x0 = 1
  · rw [if_pos q1, if_pos q1]
    simp only [jn_e, b02, b12, gd_true, t0, t1]
    rcases i0 with ⟨a, b⟩ | ⟨a, b, -⟩ <;> rcases i1 with ⟨a', b'⟩ | ⟨a', b', -⟩ <;> rw [a, b, a', b'] <;> exact ⟨_, _, _, rfl, rfl, h⟩
  rw [if_neg q1, if_neg q1]
  by_cases q2 : x0 = 2
  · rw [if_pos q2, if_pos q2, m2, m3]; exact ⟨_, _, _, rfl, rfl, h⟩
  rw [if_neg q2, if_neg q2]
  by_cases q3 : x0 = 3
  · rw [if_pos q3, if_pos q3]
    unfold pX4_isNothing
    rw [b04, gd_true, gd_true, t0]
    rcases hsh 0 (by omega) with ⟨a, b⟩ | ⟨ln, k, k1, k2, k3, k4, k5, k6, -⟩
    · rw [a, b, if_pos rfl, if_pos rfl, bd_s, i10]
      exact ⟨_, _, _, rfl, rfl, h⟩
    · rw [k5, if_neg (m4_lt (by omega)).2.1, bd_s, i00, k4, if_neg (m4_lt (by omega)).2.1, gd_true, gd_true, k6, k5]
      exact ⟨_, _, _, rfl, rfl, h⟩
  rw [if_neg q3, if_neg q3]
  by_cases q4 : x0 = 4
  · rw [if_pos q4, if_pos q4, X_sum LF hLF u (arr := 2) (fun i => P (16 + i)) (show 2 * c ≤ 8 by omega) c1 (show 8 < 1000 by omega) y1' (fun i hi => (y5 i hi).2.2), bd_s]
    exact ⟨_, _, _, rfl, rfl, h⟩
  rw [if_neg q4, if_neg q4]
  by_cases q5 : x0 = 5
  · have k := X_bits LF hLF u (arr := 4) (val := 1) (fun i => P (28 + i)) (show c ≤ 4 by omega) (by omega) (show 4 < 1000 by omega) (by omega) (fun i hi => ⟨by have := (c3.2.2.2.1 i hi).2.1; show P (28 + i) < 1000; omega, (y6 i hi).2.1⟩)
    rw [if_pos q5, if_pos q5, y1', show (1 : Int32) = nI 1 from rfl, k, bd_s, X_pop LF _ c1, bd_s, cn_sm c (fun i hi => (c3.2.2.2.1 i hi).2.1)]
    exact ⟨_, _, _, rfl, rfl, h⟩
  rw [if_neg q5, if_neg q5]
  exact ⟨_, _, _, rfl, rfl, h⟩
/-! frames, one by one -/
theorem RSeen.fr {c jn : Nat} {u v u' v' : St} (h : RSeen c jn u v) (e1 : u'.1 29 = u.1 29) (e2 : u'.2 60 = u.2 60) (e3 : u'.2 61 = u.2 61) (e4 : u'.2 62 = u.2 62) (f1 : v'.1 21 = v.1 21) (f2 : v'.2 7 = v.2 7) : RSeen c jn u' v' := by
  obtain ⟨n, a1, a2, a3, a4⟩ := h
  refine ⟨n, a1, e1.trans a2, f1.trans a3, fun i hi => ?_⟩
  rw [e2, e3, e4, f2]
  exact a4 i hi
theorem RTape.fr {u v u' v' : St} (h : RTape u v) (e1 : u'.1 17 = u.1 17) (e2 : u'.2 54 = u.2 54) (f1 : v'.1 7 = v.1 7) (f2 : v'.2 3 = v.2 3) : RTape u' v' := by
  obtain ⟨n, a1, a2, a3, a4⟩ := h
  refine ⟨n, a1, e1.trans a2, f1.trans a3, fun i hi => ?_⟩
  rw [e2, f2]
  exact a4 i hi
theorem RSheet.fr {k : Nat} {u v u' v' : St} (h : RSheet k u v) (e1 : u'.2 63 = u.2 63) (e2 : u'.2 64 = u.2 64) (e3 : u'.2 65 = u.2 65) (f1 : v'.2 9 = v.2 9) (f2 : v'.2 10 = v.2 10) (f3 : v'.2 11 = v.2 11) : RSheet k u' v' := by
  unfold RSheet at h ⊢
  rw [e1, e2, e3, f1, f2, f3]
  exact h
theorem RConst.fr {v v' : St} (h : RConst v) (e1 : v'.1 15 = v.1 15) (e2 : v'.1 17 = v.1 17) (e3 : v'.2 1 = v.2 1) (e4 : v'.2 4 = v.2 4) (e5 : v'.2 5 = v.2 5) : RConst v' := by
  obtain ⟨a1, a2, a3, a4, a5⟩ := h
  exact ⟨e1.trans a1, e2.trans a2, e3.trans a3, e4.trans a4, e5.trans a5⟩
theorem CtX.frj {j c jn : Nat} {P : Nat → Nat} {u u' : St} (h : CtX j c jn P u) (e1 : ∀ i, i < 4 → u'.1 (4 * j + i) = u.1 (4 * j + i)) (e2 : ∀ i, i < 13 → u'.2 (13 * j + i) = u.2 (13 * j + i)) : CtX j c jn P u' := by
  obtain ⟨h1, h2, h3, h4, h5, h6, h7, h8, h9⟩ := h
  refine ⟨by rw [e1 0 (by omega)]; exact h1, by rw [e1 1 (by omega)]; exact h2, by rw [e1 2 (by omega)]; exact h3, by rw [e1 3 (by omega)]; exact h4, ?_, ?_, ?_, ?_, ?_⟩
  · intro f hf; rw [e2 0 (by omega), e2 1 (by omega), e2 2 (by omega)]; exact h5 f hf
  · intro f hf; rw [e2 3 (by omega), e2 4 (by omega), e2 5 (by omega), e2 6 (by omega)]; exact h6 f hf
  · intro f hf; rw [e2 7 (by omega), e2 8 (by omega)]; exact h7 f hf
  · intro f hf; rw [e2 9 (by omega), e2 10 (by omega)]; exact h8 f hf
  · intro f hf; rw [e2 11 (by omega), e2 12 (by omega)]; exact h9 f hf
/-! a court that becomes another -/
def ln13 (i : Nat) : Nat := ([8, 8, 8, 4, 4, 4, 4, 3, 3, 4, 4, 6, 6] : List Nat).getD i 0
theorem ln13_e : ∀ j, j < 4 → ∀ i, i < 13 → lenX (13 * j + i) = ln13 i := by decide +kernel
theorem ln13_b : ∀ i, i < 13 → 1 ≤ ln13 i ∧ ln13 i ≤ 8 := by decide +kernel
theorem X_row (F : Nat) {a b n : Nat} (u : St) (ha : lenX a = n) (hb : lenX b = n) (hn : n < 1000) : ∃ u', pX6_copyRow F a b u = some ((), u') ∧ u'.1 = u.1 ∧ (∀ k, k ≠ b → u'.2 k = u.2 k) ∧ ∀ i, i < n → u'.2 b i = u.2 a i := by
  refine ⟨stw u b (va_cpy (u.2 a) (u.2 b) 0 0 n), ?_, rfl, fun k hk => by rw [stw_2, if_neg hk], fun i hi => ?_⟩
  · unfold pX6_copyRow
    rw [ha, hb, if_neg (show ¬ Int32.ofNat n < Int32.ofNat n from nlt (a := n) (b := n) (Nat.le_refl _) (by omega))]
    have e : Int32.toNatClampNeg (Int32.ofNat n) = n := cl (n := n) (by omega)
    have e0 : Int32.toNatClampNeg 0 = 0 := by decide +kernel
    have g : cpk 0 0 (Int32.ofNat n) n n = true := by
      unfold cpk
      rw [e, e0]
      have h1 : ¬ (Int32.ofNat n) < 0 := by
        show ¬ nI n < 0
        rw [L0]
        exact nlt (by omega) (by omega)
      have h2 : ¬ ((0 : Int32) < 0) := by decide
      simp [h1, h2]
    rw [g, gd_true, vl_e, e, e0]
  · rw [stw_2, if_pos rfl]
    unfold va_cpy
    rw [if_pos ⟨by omega, by omega⟩, Nat.zero_add, Nat.sub_zero]
/-- the rows that are copied, one behind another -/
def rowsC (F p j : Nat) : Nat → Nat → St → Option (Unit × St)
  | 0, _, u => some ((), u)
  | n + 1, i, u => bd (pX6_copyRow F (13 * p + i) (13 * j + i) u) (fun (_ : Unit) (u5 : St) => rowsC F p j n (i + 1) u5)
theorem X_rowsC (F : Nat) {p j : Nat} (hp : p < 4) (hj : j < 4) (hpj : p ≠ j) : ∀ (n i : Nat) (u : St), n + i = 13 → ∃ u', rowsC F p j n i u = some ((), u') ∧ u'.1 = u.1 ∧ (∀ k, (k < 13 * j + i ∨ 13 * j + 13 ≤ k) → u'.2 k = u.2 k) ∧ ∀ k, i ≤ k → k < 13 → ∀ f, f < ln13 k → u'.2 (13 * j + k) f = u.2 (13 * p + k) f
  | 0, i, u, h => ⟨u, rfl, rfl, fun k hk => rfl, fun k h1 h2 => by omega⟩
  | n + 1, i, u, h => by
    have hb := ln13_b i (by omega)
    obtain ⟨w, g1, g2, g3, g4⟩ := X_row F u (ln13_e p hp i (by omega)) (ln13_e j hj i (by omega)) (by omega)
    obtain ⟨u', k1, k2, k3, k4⟩ := X_rowsC F hp hj hpj n (i + 1) w (by omega)
    refine ⟨u', ?_, k2.trans g2, fun k hk => by rw [k3 k (by omega), g3 k (by omega)], fun k h1 h2 f hf => ?_⟩
    · rw [rowsC, g1, bd_s, k1]
    · by_cases q : k = i
      · subst q
        rw [k3 _ (by omega), g4 f hf]
      · rw [k4 k (by omega) h2 f hf, g3 _ (by omega)]
theorem X_becomes (F : Nat) {p j : Nat} (hp : p < 4) (hj : j < 4) (hpj : p ≠ j) (u : St) : ∃ u', pX0_becomes F j p u = some ((), u') ∧ (∀ i, i < 4 → u'.1 (4 * j + i) = u.1 (4 * p + i)) ∧ (∀ k, (k < 4 * j ∨ 4 * j + 4 ≤ k) → u'.1 k = u.1 k) ∧ (∀ k, (k < 13 * j ∨ 13 * j + 13 ≤ k) → u'.2 k = u.2 k) ∧ ∀ k, k < 13 → ∀ f, f < ln13 k → u'.2 (13 * j + k) f = u.2 (13 * p + k) f := by
  obtain ⟨w, hw⟩ : ∃ w, w = stf (stf (stf (stf u (4 * j + 0) (u.1 (4 * p + 0))) (4 * j + 1) (u.1 (4 * p + 1))) (4 * j + 2) (u.1 (4 * p + 2))) (4 * j + 3) (u.1 (4 * p + 3)) := ⟨_, rfl⟩
  obtain ⟨u', k1, k2, k3, k4⟩ := X_rowsC F hp hj hpj 13 0 w (by omega)
  have w2 : w.2 = u.2 := by rw [hw]; rfl
  have w1 : ∀ i, i < 4 → w.1 (4 * j + i) = u.1 (4 * p + i) := fun i hi => by
    have q : i = 0 ∨ i = 1 ∨ i = 2 ∨ i = 3 := by omega
    rw [hw, stf_1, stf_1, stf_1, stf_1]
    rcases q with rfl | rfl | rfl | rfl
    · rw [if_neg (by omega), if_neg (by omega), if_neg (by omega), if_pos rfl]
    · rw [if_neg (by omega), if_neg (by omega), if_pos rfl]
    · rw [if_neg (by omega), if_pos rfl]
    · rw [if_pos rfl]
  refine ⟨u', ?_, fun i hi => by rw [k2, w1 i hi], fun k hk => by rw [k2, hw, stf_1, if_neg (by omega), stf_1, if_neg (by omega), stf_1, if_neg (by omega), stf_1, if_neg (by omega)], fun k hk => by rw [k3 k (by omega), w2], fun k hk f hf => by rw [k4 k (by omega) hk f hf, w2]⟩
  have e : pX0_becomes F j p u = rowsC F p j 13 0 w := by
    unfold pX0_becomes
    rw [vl_e, vl_e, vl_e, vl_e, stf_1, if_neg (by omega), stf_1, if_neg (by omega), stf_1, if_neg (by omega), stf_1, if_neg (by omega), stf_1, if_neg (by omega), stf_1, if_neg (by omega), ← hw]
    rfl
  rw [e, k1]
theorem CtX.becomes {p j c jn : Nat} {P : Nat → Nat} {u u' : St} (h : CtX p c jn P u) (hP : PgOK c jn P) (hc : c ≤ 4) (hj : jn ≤ 3) (e1 : ∀ i, i < 4 → u'.1 (4 * j + i) = u.1 (4 * p + i)) (e2 : ∀ k, k < 13 → ∀ f, f < ln13 k → u'.2 (13 * j + k) f = u.2 (13 * p + k) f) : CtX j c jn P u' := by
  obtain ⟨h1, h2, h3, h4, h5, h6, h7, h8, h9⟩ := h
  have q1 := hP.1
  have q2 := hP.2.1
  have E : ∀ k n, k < 13 → ln13 k = n → ∀ f, f < n → u'.2 (13 * j + k) f = u.2 (13 * p + k) f := fun k n hk hn f hf => e2 k hk f (by omega)
  refine ⟨(e1 0 (by omega)).trans h1, (e1 1 (by omega)).trans h2, (e1 2 (by omega)).trans h3, (e1 3 (by omega)).trans h4, fun f hf => ?_, fun f hf => ?_, fun f hf => ?_, fun f hf => ?_, fun f hf => ?_⟩
  · obtain ⟨w0, w1, w2⟩ := h5 f hf
    exact ⟨(E 0 8 (by omega) rfl f (by omega)).trans w0, (E 1 8 (by omega) rfl f (by omega)).trans w1, (E 2 8 (by omega) rfl f (by omega)).trans w2⟩
  · obtain ⟨w0, w1, w2, w3⟩ := h6 f hf
    exact ⟨(E 3 4 (by omega) rfl f (by omega)).trans w0, (E 4 4 (by omega) rfl f (by omega)).trans w1, (E 5 4 (by omega) rfl f (by omega)).trans w2, (E 6 4 (by omega) rfl f (by omega)).trans w3⟩
  · obtain ⟨w0, w1⟩ := h7 f hf
    exact ⟨(E 7 3 (by omega) rfl f (by omega)).trans w0, (E 8 3 (by omega) rfl f (by omega)).trans w1⟩
  · obtain ⟨w0, w1⟩ := h8 f hf
    exact ⟨(E 9 4 (by omega) rfl f (by omega)).trans w0, (E 10 4 (by omega) rfl f (by omega)).trans w1⟩
  · obtain ⟨w0, w1⟩ := h9 f hf
    exact ⟨(E 11 6 (by omega) rfl f (by omega)).trans w0, (E 12 6 (by omega) rfl f (by omega)).trans w1⟩
/-! keep, back -/
theorem stz_m (u : St) {k j : Nat} (i v : Int32) (h : j ≠ k) : (stz u k i v).2 j = u.2 j := by rw [stz_2, if_neg h]
theorem vb0 : vp_nar .boolean 0 = 0 := by decide +kernel
theorem vb1 : vp_nar .boolean 1 = 1 := by decide +kernel
theorem stz_h (u : St) (k : Nat) {i : Nat} (hi : i < 2147483648) (v : Int32) (j : Nat) : (stz u k (nI i) v).2 k j = if j = i then vp_nar .boolean v else u.2 k j := by
  rw [stz_2, if_pos rfl, cl hi]
  rfl
theorem stz_o (u : St) (k : Nat) {i j : Nat} (hi : i < 2147483648) (hj : j ≠ i) (v : Int32) : (stz u k (nI i) v).2 k j = u.2 k j := by rw [stz_h u k hi, if_neg hj]
theorem image_n (F : Nat) (u : St) {k : Nat} (hk : k < 2) : pX6_imageOf F (nI k) u = some (k + 1, u) := by
  unfold pX6_imageOf
  have q : k = 0 ∨ k = 1 := by omega
  rcases q with rfl | rfl
  · rw [if_pos (show nI 0 = 0 from rfl)]
  · rw [if_neg (show ¬ nI 1 = 0 from by decide)]
theorem RImg.same {k c jn : Nat} {u v u' v' : St} (h : RImg k c jn u v) (hk : k < 2) (e1 : ∀ i, i < 4 → u'.1 (4 * (k + 1) + i) = u.1 (4 * (k + 1) + i)) (e2 : ∀ i, i < 13 → u'.2 (13 * (k + 1) + i) = u.2 (13 * (k + 1) + i)) (e3 : u'.2 66 k = u.2 66 k) (f1 : v'.2 12 k = v.2 12 k) (f2 : ∀ i, i < 68 → v'.2 0 (68 * (k + 1) + i) = v.2 0 (68 * (k + 1) + i)) : RImg k c jn u' v' := by
  rcases h with ⟨a, b⟩ | ⟨a, b, Q, q1, q2, q3⟩
  · exact Or.inl ⟨e3.trans a, f1.trans b⟩
  · exact Or.inr ⟨e3.trans a, f1.trans b, Q, q1, q2.frj e1 e2, fun i hi => (f2 i hi).trans (q3 i hi)⟩
theorem RImg.is {k c jn : Nat} {u v : St} (h : RImg k c jn u v) : (u.2 66 k = nI 0 ∧ v.2 12 k = nI 0) ∨ (u.2 66 k = nI 1 ∧ v.2 12 k = nI 1) := by
  rcases h with ⟨a, b⟩ | ⟨a, b, -⟩
  · exact Or.inl ⟨a, b⟩
  · exact Or.inr ⟨a, b⟩
theorem step_keep {u v : St} (h : RR u v) (x0 : Int32) : ∃ (r : Int32) (u' v' : St), pX6_keep LF x0 u = some (r, u') ∧ pX7_keep LF x0 v = some (r, v') ∧ RR u' v' := by
  obtain ⟨c, jn, P, ⟨c1, c2, c3, hX, c5, c6, c7⟩, i0, i1, hs, ht, hw, htn, hsh, hc⟩ := id h
  have hLF : 80 ≤ LF := by decide
  rcases rng x0 (a0 := 0) (b0 := 1) (a1 := 0) (b1 := 1) 0 1 rfl rfl rfl rfl (by omega) (by omega) with ⟨k, k1, k2, rfl, e, e'⟩ | ⟨-, e, e'⟩
  · have hk : k < 2 := by omega
    have hi : RImg k c jn u v := by
      have q : k = 0 ∨ k = 1 := by omega
      rcases q with rfl | rfl
      · exact i0
      · exact i1
    obtain ⟨w, g1, g2, g3, g4, g5⟩ := X_becomes LF (p := 0) (j := k + 1) (by omega) (by omega) (by omega) u
    obtain ⟨y, m1, m2, m3, m4, m5⟩ := M_copies LF hLF (p := 0) (q := k + 1) (by omega) (by omega) (by omega) v
    have hX' : CtX (k + 1) c jn P w := hX.becomes c3 c1 c2 g2 g5
    have hX0 : CtX 0 c jn P w := hX.frj (fun i hi => by rw [g3 _ (by omega)]) (fun i hi => by rw [g4 _ (by omega)])
    have flag : ∃ b, u.2 66 k = nI b ∧ v.2 12 k = nI b ∧ (b = 0 ∨ b = 1) := by
      rcases hi.is with ⟨a, b⟩ | ⟨a, b⟩
      · exact ⟨0, a, b, Or.inl rfl⟩
      · exact ⟨1, a, b, Or.inr rfl⟩
    obtain ⟨b, fu, fv, hb⟩ := flag
    refine ⟨nI b, stz w 66 (nI k) 1, stz y 12 (nI k) 1, ?_, ?_, ?_⟩
    · unfold pX6_keep
      simp only [e, bd_s, i10, jn_e, image_n LF _ hk, g1, gd_i hk (show 2 < 2147483648 by omega), cl (show k < 2147483648 by omega), fu, vl_e]
      have d : decide (k + 1 < 4) = true := decide_eq_true (by omega)
      rw [d]
      rcases hb with rfl | rfl
      · rw [if_pos (show nI 0 = 0 from rfl), gd_true]; rfl
      · rw [if_neg (show ¬ nI 1 = 0 from by decide), gd_true]; rfl
    · unfold pX7_keep
      have t : (68 : Int32) * (nI k + 1) = nI (68 * (k + 1)) := by rw [nI_s, tm68]
      have m1' : pX7_copies LF 0 (nI (68 * (k + 1))) v = some ((), y) := m1
      simp only [e', bd_s, i10, t, m1', jn_e, gd_i hk (show 2 < 2147483648 by omega), cl (show k < 2147483648 by omega), vl_e, m3 12 (by omega), fv]
      rcases hb with rfl | rfl
      · rw [if_pos (show nI 0 = 0 from rfl)]; rfl
      · rw [if_neg (show ¬ nI 1 = 0 from by decide)]; rfl
    · have oX : ∀ j, j ≠ 66 → (stz w 66 (nI k) 1).2 j = w.2 j := fun j hj => stz_m _ _ _ hj
      have oM : ∀ j, j ≠ 12 → (stz y 12 (nI k) 1).2 j = y.2 j := fun j hj => stz_m _ _ _ hj
      have new : RImg k c jn (stz w 66 (nI k) 1) (stz y 12 (nI k) 1) := by
        refine Or.inr ⟨by rw [stz_h _ _ (by omega), if_pos rfl, vb1], by rw [stz_h _ _ (by omega), if_pos rfl, vb1], P, c3, hX'.frj (fun i hi => rfl) (fun i hi => oX _ (by omega)), fun i hi => ?_⟩
        rw [oM 0 (by omega), m4 i hi]
        exact c7 i hi
      have old : ∀ j, j < 2 → j ≠ k → RImg j c jn u v → RImg j c jn (stz w 66 (nI k) 1) (stz y 12 (nI k) 1) := fun j hj hjk q => by
        refine q.same hj (fun i hi => g3 _ (by omega)) (fun i hi => by rw [oX _ (by omega), g4 _ (by omega)]) ?_ ?_ (fun i hi => ?_)
        · rw [stz_o _ _ (by omega) hjk, g4 66 (by omega)]
        · rw [stz_o _ _ (by omega) hjk, m3 12 (by omega)]
        · rw [oM 0 (by omega), m5 _ (by omega)]
      have im : ∀ j, j < 2 → RImg j c jn u v → RImg j c jn (stz w 66 (nI k) 1) (stz y 12 (nI k) 1) := fun j hj q => by
        by_cases z : j = k
        · rw [z]; exact new
        · exact old j hj z q
      refine ⟨c, jn, P, ⟨c1, c2, c3, hX0.frj (fun i hi => rfl) (fun i hi => oX _ (by omega)), (congrFun m2 0).trans c5, (congrFun m2 1).trans c6, fun i hi => ?_⟩, im 0 (by omega) i0, im 1 (by omega) i1, ?_, ?_, ?_, ?_, ?_, ?_⟩
      · rw [oM 0 (by omega), m5 _ (by omega)]
        exact c7 i hi
      · exact hs.fr (g3 29 (by omega)) (by rw [oX _ (by omega), g4 _ (by omega)]) (by rw [oX _ (by omega), g4 _ (by omega)]) (by rw [oX _ (by omega), g4 _ (by omega)]) (congrFun m2 21) (by rw [oM _ (by omega), m3 _ (by omega)])
      · exact ht.fr (g3 17 (by omega)) (by rw [oX _ (by omega), g4 _ (by omega)]) (congrFun m2 7) (by rw [oM _ (by omega), m3 _ (by omega)])
      · exact hw.tr (g3 18 (by omega)) (congrFun m2 8)
      · exact (g3 16 (by omega)).trans (htn.trans (congrFun m2 22).symm)
      · exact fun i hi => (hsh i hi).fr (by rw [oX _ (by omega), g4 _ (by omega)]) (by rw [oX _ (by omega), g4 _ (by omega)]) (by rw [oX _ (by omega), g4 _ (by omega)]) (by rw [oM _ (by omega), m3 _ (by omega)]) (by rw [oM _ (by omega), m3 _ (by omega)]) (by rw [oM _ (by omega), m3 _ (by omega)])
      · exact hc.fr (congrFun m2 15) (congrFun m2 17) (by rw [oM _ (by omega), m3 _ (by omega)]) (by rw [oM _ (by omega), m3 _ (by omega)]) (by rw [oM _ (by omega), m3 _ (by omega)])
  · refine ⟨-1, u, v, ?_, ?_, h⟩
    · unfold pX6_keep
      rw [e, bd_s, i00]
    · unfold pX7_keep
      rw [e', bd_s, i00]
theorem step_back {u v : St} (h : RR u v) (x0 : Int32) : ∃ (r : Int32) (u' v' : St), pX6_back LF x0 u = some (r, u') ∧ pX7_back LF x0 v = some (r, v') ∧ RR u' v' := by
  obtain ⟨c, jn, P, ⟨c1, c2, c3, hX, c5, c6, c7⟩, i0, i1, hs, ht, hw, htn, hsh, hc⟩ := id h
  have hLF : 80 ≤ LF := by decide
  rcases rng x0 (a0 := 0) (b0 := 1) (a1 := 0) (b1 := 1) 0 1 rfl rfl rfl rfl (by omega) (by omega) with ⟨k, k1, k2, rfl, e, e'⟩ | ⟨-, e, e'⟩
  · have hk : k < 2 := by omega
    have hi : RImg k c jn u v := by
      have q : k = 0 ∨ k = 1 := by omega
      rcases q with rfl | rfl
      · exact i0
      · exact i1
    have z2 : ∀ o : Option (Int32 × St), gd (inb (nI k) 2) o = o := fun o => gd_i hk (by omega) o
    have zc : Int32.toNatClampNeg (nI k) = k := cl (by omega)
    rcases hi with ⟨a, b⟩ | ⟨a, b, Q, q1, q2, q3⟩
    · refine ⟨-2, u, v, ?_, ?_, h⟩
      · unfold pX6_back
        rw [e, bd_s, i10, z2, zc, a, if_pos rfl]
      · unfold pX7_back
        rw [e', bd_s, i10, z2, zc, b, if_pos rfl]
    · obtain ⟨w, g1, g2, g3, g4, g5⟩ := X_becomes LF (p := k + 1) (j := 0) (by omega) (by omega) (by omega) u
      obtain ⟨y, m1, m2, m3, m4, m5⟩ := M_copies LF hLF (p := k + 1) (q := 0) (by omega) (by omega) (by omega) v
      have hX0 : CtX 0 c jn Q w := q2.becomes q1 c1 c2 g2 g5
      have hM0 : PgM 0 Q y := fun i hi => (m4 i hi).trans (q3 i hi)
      have y5 := hX0.2.2.2.2.1
      have s1 := X_sum LF hLF w (arr := 1) (fun i => Q (8 + i)) (show 2 * c ≤ 8 by omega) c1 (show 8 < 1000 by omega) hX0.1 (fun i hi => (y5 i hi).2.1)
      have s2 : pX7_lengthsOn LF 0 y = some (nI (sm (fun i => Q (8 + i)) (2 * c)), y) := M_lens LF hLF y (p := 0) (by omega) c1 ((congrFun m2 0).trans c5) hM0
      refine ⟨nI (sm (fun i => Q (8 + i)) (2 * c)), w, y, ?_, ?_, ?_⟩
      · unfold pX6_back
        have d : decide (k + 1 < 4) = true := decide_eq_true (by omega)
        rw [e, bd_s, i10, z2, zc, a, if_neg (show ¬ (1 : Int32) = 0 from by decide), image_n LF _ hk, bd_s, d, gd_true, g1, bd_s, s1, bd_s]
      · unfold pX7_back
        have t : (68 : Int32) * (nI k + 1) = nI (68 * (k + 1)) := by rw [nI_s, tm68]
        have m1' : pX7_copies LF (nI (68 * (k + 1))) 0 v = some ((), y) := m1
        rw [e', bd_s, i10, z2, zc, b, if_neg (show ¬ (1 : Int32) = 0 from by decide), t, m1', bd_s, s2, bd_s]
      · have old : ∀ j, j < 2 → RImg j c jn u v → RImg j c jn w y := fun j hj q => by
          refine q.same hj (fun i hi => g3 _ (by omega)) (fun i hi => g4 _ (by omega)) (by rw [g4 66 (by omega)]) (by rw [m3 12 (by omega)]) (fun i hi => m5 _ (by omega))
        refine ⟨c, jn, Q, ⟨c1, c2, q1, hX0, (congrFun m2 0).trans c5, (congrFun m2 1).trans c6, hM0⟩, old 0 (by omega) i0, old 1 (by omega) i1, ?_, ?_, ?_, ?_, ?_, ?_⟩
        · exact hs.fr (g3 29 (by omega)) (g4 _ (by omega)) (g4 _ (by omega)) (g4 _ (by omega)) (congrFun m2 21) (m3 _ (by omega))
        · exact ht.fr (g3 17 (by omega)) (g4 _ (by omega)) (congrFun m2 7) (m3 _ (by omega))
        · exact hw.tr (g3 18 (by omega)) (congrFun m2 8)
        · exact (g3 16 (by omega)).trans (htn.trans (congrFun m2 22).symm)
        · exact fun i hi => (hsh i hi).fr (g4 _ (by omega)) (g4 _ (by omega)) (g4 _ (by omega)) (m3 _ (by omega)) (m3 _ (by omega)) (m3 _ (by omega))
        · exact hc.fr (congrFun m2 15) (congrFun m2 17) (m3 _ (by omega)) (m3 _ (by omega)) (m3 _ (by omega))
  · refine ⟨-1, u, v, ?_, ?_, h⟩
    · unfold pX6_back
      rw [e, bd_s, i00]
    · unfold pX7_back
      rw [e', bd_s, i00]
