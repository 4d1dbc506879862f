theorem X_p3 (F : Nat) (J : St → Option (Unit × St)) (self : Int32 → St → Option (Unit × St)) {cc s a b d : Nat} (u : St) (hc : cc < 4) (hs : s < 2) (h0 : u.2 0 (2 * cc + s) = nI a) (h1 : u.2 1 (2 * cc + s) = nI b) (h2 : u.2 2 (2 * cc + s) = nI d) : bX5_prepare_3 F (nI cc) J self (nI s) u = self (nI (s + 1)) (sta (sta (sta u 55 (nI s) (nI a)) 56 (nI s) (nI b)) 57 (nI s) (nI d)) := by
  unfold bX5_prepare_3
  simp only [L2, L1, pk_mul, nI_add]
  rw [if_neg (show ¬ nI 2 ≤ nI s from fun q => absurd ((leI (by omega) (by omega)).mp q) (by omega))]
  simp (disch := omega) only [inb_nI, gd_true, vl_e, cl, sta_2, Nat.reduceEqDiff, if_false, h0, h1, h2]
theorem sta_m (u : St) {k j : Nat} (i v : Int32) (h : j ≠ k) : (sta u k i v).2 j = u.2 j := by rw [sta_2, if_neg h]
theorem sta_h (u : St) (k : Nat) {i : Nat} (hi : i < 2147483648) (v : Int32) (j : Nat) : (sta u k (nI i) v).2 k j = if j = i then v else u.2 k j := by
  rw [sta_2, if_pos rfl, cl hi]
  rfl
def trW (u : St) (k0 l0 g0 k1 l1 g1 : Nat) : St := sta (sta (sta (sta (sta (sta u 55 (nI 0) (nI k0)) 56 (nI 0) (nI l0)) 57 (nI 0) (nI g0)) 55 (nI 1) (nI k1)) 56 (nI 1) (nI l1)) 57 (nI 1) (nI g1)
theorem trW_1 (u : St) (k0 l0 g0 k1 l1 g1 : Nat) : (trW u k0 l0 g0 k1 l1 g1).1 = u.1 := by
  unfold trW
  simp only [sta_1]
theorem trW_o (u : St) (k0 l0 g0 k1 l1 g1 : Nat) {k : Nat} (hk : k < 55 ∨ 57 < k) : (trW u k0 l0 g0 k1 l1 g1).2 k = u.2 k := by
  unfold trW
  simp only [sta_2]
  rw [if_neg (by omega), if_neg (by omega), if_neg (by omega), if_neg (by omega), if_neg (by omega), if_neg (by omega)]
theorem trW_t (u : St) (k0 l0 g0 k1 l1 g1 : Nat) : ((trW u k0 l0 g0 k1 l1 g1).2 55 0 = nI k0 ∧ (trW u k0 l0 g0 k1 l1 g1).2 55 1 = nI k1) ∧ ((trW u k0 l0 g0 k1 l1 g1).2 56 0 = nI l0 ∧ (trW u k0 l0 g0 k1 l1 g1).2 56 1 = nI l1) ∧ ((trW u k0 l0 g0 k1 l1 g1).2 57 0 = nI g0 ∧ (trW u k0 l0 g0 k1 l1 g1).2 57 1 = nI g1) := by
  unfold trW
  simp (disch := omega) only [sta_m, sta_h, Nat.reduceEqDiff, Nat.zero_ne_one, Nat.one_ne_zero, if_true, if_false, and_self]
theorem X_p3e (F : Nat) (J : St → Option (Unit × St)) (self : Int32 → St → Option (Unit × St)) (cc : Nat) (u : St) : bX5_prepare_3 F (nI cc) J self (nI 2) u = J u := by
  unfold bX5_prepare_3
  rw [L2, if_pos (show nI 2 ≤ nI 2 from (leI (by omega) (by omega)).mpr (by omega))]
theorem X_prep1 (F : Nat) (hF : 3 ≤ F) {c jn cc : Nat} {P : Nat → Nat} (x2 x3 : Int32) (u : St) (hX : CtX 0 c jn P u) (hc : cc < c) (hc4 : c ≤ 4) : pX5_prepare F (nI cc) x2 x3 u = jX5_prepare_69 F x2 x3 (trW u (P (2 * cc)) (P (8 + 2 * cc)) (P (16 + 2 * cc)) (P (2 * cc + 1)) (P (8 + (2 * cc + 1))) (P (16 + (2 * cc + 1)))) := by
  obtain ⟨-, -, -, -, q5, -⟩ := hX
  obtain ⟨y0, y1, y2⟩ := q5 (2 * cc) (by omega)
  obtain ⟨z0, z1, z2⟩ := q5 (2 * cc + 1) (by omega)
  obtain ⟨f, hf⟩ : ∃ f, F = f + 1 + 1 + 1 := ⟨F - 3, by omega⟩
  unfold pX5_prepare
  rw [jn_e, L0]
  generalize jX5_prepare_69 F = J
  generalize hq : lq1 (bX5_prepare_3 F (nI cc) (J x2 x3)) F = g
  have hg : g = lq1 (bX5_prepare_3 F (nI cc) (J x2 x3)) (f + 1 + 1 + 1) := by rw [← hq]; exact congrArg _ hf
  rw [hg, lq1_s, X_p3 F _ _ u (by omega) (show 0 < 2 by omega) y0 y1 y2, lq1_s, X_p3 F _ _ _ (by omega) (show 0 + 1 < 2 by omega) (a := P (2 * cc + 1)) (b := P (8 + (2 * cc + 1))) (d := P (16 + (2 * cc + 1))) (by rw [sta_m _ _ _ (by omega), sta_m _ _ _ (by omega), sta_m _ _ _ (by omega)]; exact z0) (by rw [sta_m _ _ _ (by omega), sta_m _ _ _ (by omega), sta_m _ _ _ (by omega)]; exact z1) (by rw [sta_m _ _ _ (by omega), sta_m _ _ _ (by omega), sta_m _ _ _ (by omega)]; exact z2), lq1_s, X_p3e]
  rfl
theorem X_prep2 (F : Nat) (hF : 30 ≤ F) {c jn jj aw : Nat} {P : Nat → Nat} (w : St) (hj3 : jn ≤ 3) (hP : PgOK c jn P) (hj : jj < jn) (ha : aw < 16) (h7 : w.2 7 jj = nI (P (40 + jj))) (h8 : w.2 8 jj = nI (P (43 + jj))) (h2 : w.1 2 = nI (P 46)) (h9 : ∀ i, i < P 46 → w.2 9 i = nI (P (47 + i)) ∧ w.2 10 i = nI (P (51 + i))) :
    ∃ v', jX5_prepare_69 F (nI jj) (nI aw) w = some ((), v') ∧ (∀ m, m < 21 → v'.2 58 m = nI (stg P aw (P 46) m)) ∧ v'.1 24 = nI (P (40 + jj)) ∧ v'.1 25 = nI (P (43 + jj)) ∧ (∀ k, (k < 24 ∨ 26 < k) → v'.1 k = w.1 k) ∧ ∀ k, k ≠ 58 → v'.2 k = w.2 k := by
  unfold jX5_prepare_69
  simp (disch := omega) only [inb_nI, gd_true, vl_e, cl, stf_2, h7, h8, jn_e, L0]
  obtain ⟨v, g1, g2, -, g4, g5⟩ := X_clear F (jX5_prepare_116 F (nI aw)) 21 0 F (stf (stf w 24 (nI (P (40 + jj)))) 25 (nI (P (43 + jj)))) (by omega) (by omega)
  rw [g1]
  unfold jX5_prepare_116
  rw [L0]
  have hd : ∀ k, k ≠ 58 → v.2 k = w.2 k := fun k hk => g5 k hk
  have h4 := hP.1
  obtain ⟨v', k1, k2, k3, k4⟩ := X_draw F hP ha (P 46) 0 F v (by omega) (by omega) (by rw [g4, stf_1, if_neg (by omega), stf_1, if_neg (by omega)]; exact h2) (fun i hi => by rw [hd 9 (by omega), hd 10 (by omega)]; exact h9 i hi) (fun m hm => by rw [g2 m (by omega) hm, stg])
  refine ⟨v', k1, k2, ?_, ?_, fun k hk => ?_, fun k hk => ?_⟩
  · rw [k3, g4, stf_1, if_neg (by omega), stf_1, if_pos rfl]
  · rw [k3, g4, stf_1, if_pos rfl]
  · rw [k3, g4, stf_1, if_neg (by omega), stf_1, if_neg (by omega)]
  · rw [k4 k hk, hd k hk]
theorem X_prepare (F : Nat) (hF : 30 ≤ F) {c jn cc jj aw : Nat} {P : Nat → Nat} (u : St) (hc4 : c ≤ 4) (hj3 : jn ≤ 3) (hP : PgOK c jn P) (hX : CtX 0 c jn P u) (hc : cc < c) (hj : jj < jn) (ha : aw < 16) :
    ∃ u', pX5_prepare F (nI cc) (nI jj) (nI aw) u = some ((), u') ∧ TrX u' (P (2 * cc)) (P (8 + 2 * cc)) (P (16 + 2 * cc)) (P (2 * cc + 1)) (P (8 + (2 * cc + 1))) (P (16 + (2 * cc + 1))) (P (40 + jj)) (P (43 + jj)) (stg P aw (P 46)) ∧ eqT u u' := by
  rw [X_prep1 F (by omega) (nI jj) (nI aw) u hX hc hc4]
  obtain ⟨x1, x2, x3, x4, x5, x6, x7, x8, x9⟩ := hX
  have t := trW_t u (P (2 * cc)) (P (8 + 2 * cc)) (P (16 + 2 * cc)) (P (2 * cc + 1)) (P (8 + (2 * cc + 1))) (P (16 + (2 * cc + 1)))
  have t1 := trW_1 u (P (2 * cc)) (P (8 + 2 * cc)) (P (16 + 2 * cc)) (P (2 * cc + 1)) (P (8 + (2 * cc + 1))) (P (16 + (2 * cc + 1)))
  have wk := fun k => trW_o u (P (2 * cc)) (P (8 + 2 * cc)) (P (16 + 2 * cc)) (P (2 * cc + 1)) (P (8 + (2 * cc + 1))) (P (16 + (2 * cc + 1))) (k := k)
  generalize trW u (P (2 * cc)) (P (8 + 2 * cc)) (P (16 + 2 * cc)) (P (2 * cc + 1)) (P (8 + (2 * cc + 1))) (P (16 + (2 * cc + 1))) = w at *
  obtain ⟨v', k1, k2, k3, k4, k5, k6⟩ := X_prep2 F hF w hj3 hP hj ha (by rw [wk 7 (by omega)]; exact (x7 jj hj).1) (by rw [wk 8 (by omega)]; exact (x7 jj hj).2) (by rw [t1]; exact x3) (fun i hi => by rw [wk 9 (by omega), wk 10 (by omega)]; exact x8 i hi)
  refine ⟨v', k1, ⟨?_, ?_, ?_, k2, k3, k4⟩, fun k hk => by rw [k5 k hk, t1], fun k hk => by rw [k6 k (by omega), wk k (by omega)]⟩
  · rw [k6 55 (by omega)]; exact t.1
  · rw [k6 56 (by omega)]; exact t.2.1
  · rw [k6 57 (by omega)]; exact t.2.2
