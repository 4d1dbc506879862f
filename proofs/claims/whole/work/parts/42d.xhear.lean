theorem X_p3 (F : Nat) (J : St → Option (Unit × St)) (self : Int32 → St → Option (Unit × St)) {cc s a b d : Nat} (u : St) (hc : cc < 4) (hs : s < 2) (h0 : u.2 0 (2 * cc + s) = nI a) (h1 : u.2 1 (2 * cc + s) = nI b) (h2 : u.2 2 (2 * cc + s) = nI d) : bX5_prepare_3 F (nI cc) J self (nI s) u = self (nI (s + 1)) (sta (sta (sta u 55 (nI s) (nI a)) 56 (nI s) (nI b)) 57 (nI s) (nI d)) := by
  unfold bX5_prepare_3
  simp only [L2, L1, pk_mul, nI_add]
  rw [if_neg (show ¬ nI 2 ≤ nI s from fun q => absurd ((leI (by omega) (by omega)).mp q) (by omega))]
  simp (disch := omega) only [inb_nI, gd_true, vl_e, cl, sta_2, Nat.reduceEqDiff, if_false, h0, h1, h2]
theorem X_prepare (F : Nat) (hF : 30 ≤ F) {c jn cc jj aw : Nat} {P : Nat → Nat} (u : St) (hc4 : c ≤ 4) (hj3 : jn ≤ 3) (hP : PgOK c jn P) (hX : CtX 0 c jn P u) (hc : cc < c) (hj : jj < jn) (ha : aw < 16) :
    ∃ u', pX5_prepare F (nI cc) (nI jj) (nI aw) u = some ((), u') ∧ TrX u' (P (2 * cc)) (P (8 + 2 * cc)) (P (16 + 2 * cc)) (P (2 * cc + 1)) (P (8 + (2 * cc + 1))) (P (16 + (2 * cc + 1))) (P (40 + jj)) (P (43 + jj)) (stg P aw (P 46)) ∧ eqT u u' := by
  obtain ⟨x1, x2, x3, x4, x5, x6, x7, x8, x9⟩ := hX
  obtain ⟨f, rfl⟩ : ∃ f, F = f + 30 := ⟨F - 30, by omega⟩
  obtain ⟨y0, y1, y2⟩ := x5 (2 * cc) (by omega)
  obtain ⟨z0, z1, z2⟩ := x5 (2 * cc + 1) (by omega)
  unfold pX5_prepare
  rw [jn_e, L0, show f + 30 = f + 29 + 1 from rfl, lq1_s, X_p3 _ _ _ u (by omega) (by omega) y0 y1 y2, show f + 29 = f + 28 + 1 from rfl, lq1_s]
  rw [X_p3 _ _ _ (sta (sta (sta u 55 (nI 0) (nI (P (2 * cc)))) 56 (nI 0) (nI (P (8 + 2 * cc)))) 57 (nI 0) (nI (P (16 + 2 * cc)))) (by omega) (show 0 + 1 < 2 by omega) z0 z1 z2, show f + 28 = f + 27 + 1 from rfl, lq1_s]
  generalize hw : (sta (sta (sta (sta (sta (sta u 55 (nI 0) (nI (P (2 * cc)))) 56 (nI 0) (nI (P (8 + 2 * cc)))) 57 (nI 0) (nI (P (16 + 2 * cc)))) 55 (nI (0 + 1)) (nI (P (2 * cc + 1)))) 56 (nI (0 + 1)) (nI (P (8 + (2 * cc + 1))))) 57 (nI (0 + 1)) (nI (P (16 + (2 * cc + 1))))) = w
  have w1 : w.1 = u.1 := by rw [← hw]; rfl
  have wk : ∀ k, (k < 55 ∨ 57 < k) → w.2 k = u.2 k := fun k hk => by
    rw [← hw]
    simp only [sta_2]
    rw [if_neg (by omega), if_neg (by omega), if_neg (by omega), if_neg (by omega), if_neg (by omega), if_neg (by omega)]
  have w55 : w.2 55 0 = nI (P (2 * cc)) ∧ w.2 55 1 = nI (P (2 * cc + 1)) := by rw [← hw]; exact ⟨rfl, rfl⟩
  have w56 : w.2 56 0 = nI (P (8 + 2 * cc)) ∧ w.2 56 1 = nI (P (8 + (2 * cc + 1))) := by rw [← hw]; exact ⟨rfl, rfl⟩
  have w57 : w.2 57 0 = nI (P (16 + 2 * cc)) ∧ w.2 57 1 = nI (P (16 + (2 * cc + 1))) := by rw [← hw]; exact ⟨rfl, rfl⟩
  clear hw
  have e1 : ∀ self, bX5_prepare_3 (f + 27 + 1 + 1 + 1) (nI cc) (jX5_prepare_69 (f + 27 + 1 + 1 + 1) (nI jj) (nI aw)) self (nI (0 + 1 + 1)) w = jX5_prepare_69 (f + 27 + 1 + 1 + 1) (nI jj) (nI aw) w := fun self => by
    unfold bX5_prepare_3
    rw [L2, if_pos (show nI 2 ≤ nI (0 + 1 + 1) from (leI (by omega) (by omega)).mpr (by omega))]
  rw [e1]
  unfold jX5_prepare_69
  have h7 : w.2 7 jj = nI (P (40 + jj)) := by rw [wk 7 (by omega)]; exact (x7 jj hj).1
  have h8 : w.2 8 jj = nI (P (43 + jj)) := by rw [wk 8 (by omega)]; exact (x7 jj hj).2
  simp (disch := omega) only [inb_nI, gd_true, vl_e, cl, stf_2, h7, h8, jn_e, L0]
  obtain ⟨v, g1, g2, -, g4, g5⟩ := X_clear (f + 27 + 1 + 1 + 1) (jX5_prepare_116 (f + 27 + 1 + 1 + 1) (nI aw)) 21 0 (f + 27 + 1 + 1 + 1) (stf (stf w 24 (nI (P (40 + jj)))) 25 (nI (P (43 + jj)))) (by omega) (by omega)
  rw [g1]
  unfold jX5_prepare_116
  rw [L0]
  have hd : ∀ k, k ≠ 58 → v.2 k = w.2 k := fun k hk => g5 k hk
  obtain ⟨v', k1, k2, k3, k4⟩ := X_draw (f + 27 + 1 + 1 + 1) hP ha (P 46) 0 (f + 27 + 1 + 1 + 1) v (by omega) (by have := hP.1; omega) (by rw [g4]; show w.1 2 = _; rw [w1]; exact x3) (fun i hi => by rw [hd 9 (by omega), hd 10 (by omega), wk 9 (by omega), wk 10 (by omega)]; exact x8 i hi) (fun m hm => by rw [g2 m (by omega) hm]; rfl)
  refine ⟨v', k1, ⟨?_, ?_, ?_, k2, ?_, ?_⟩, fun k hk => ?_, fun k hk => ?_⟩
  · rw [k4 55 (by omega), hd 55 (by omega)]; exact w55
  · rw [k4 56 (by omega), hd 56 (by omega)]; exact w56
  · rw [k4 57 (by omega), hd 57 (by omega)]; exact w57
  · rw [k3, g4]; rfl
  · rw [k3, g4]; rfl
  · rw [k3, g4, stf_1, if_neg (by omega), stf_1, if_neg (by omega), w1]
  · rw [k4 k (by omega), hd k (by omega), wk k (by omega)]
/-- a hearing of a page: verdict, minute, lengths -/
def hP (P : Nat → Nat) (S : Nat → Nat) (cc jj : Nat) : Nat × Nat × Nat × Nat := hRun (bn (P (2 * cc))) (bn (P (2 * cc + 1))) (P (16 + 2 * cc)) (P (16 + (2 * cc + 1))) (P (40 + jj)) (P (43 + jj)) S 10 0 (P (8 + 2 * cc)) (P (8 + (2 * cc + 1)))
theorem X_held (F : Nat) (hF : 30 ≤ F) (u : St) {k0 l0 g0 k1 l1 g1 hb sl : Nat} {S : Nat → Nat} (h : TrX u k0 l0 g0 k1 l1 g1 hb sl S) (a1 : k0 ≤ 3) (a2 : k1 ≤ 3) (b1 : l0 < 1000) (b2 : l1 < 1000) (b3 : g0 < 1000) (b4 : g1 < 1000) (b5 : hb < 1000) (b6 : ∀ m, S m < 1000) (b7 : sl ≤ 9) :
    ∃ u', pX5_verdictHeld F u = some (nI (hRun (bn k0) (bn k1) g0 g1 hb sl S 10 0 l0 l1).1, u') ∧ TrX u' k0 (hRun (bn k0) (bn k1) g0 g1 hb sl S 10 0 l0 l1).2.2.1 g0 k1 (hRun (bn k0) (bn k1) g0 g1 hb sl S 10 0 l0 l1).2.2.2 g1 hb sl S ∧ u'.1 26 = nI (hRun (bn k0) (bn k1) g0 g1 hb sl S 10 0 l0 l1).2.1 ∧ eqT u u' := by
  unfold pX5_verdictHeld
  rw [vl_e, jn_e]
  obtain ⟨u', g1', g2, g3, g4⟩ := X_loop F a1 a2 b3 b4 b5 b6 b7 10 0 l0 l1 F (stf u 26 0) (by omega) ⟨h.1, h.2.1, h.2.2.1, h.2.2.2.1, h.2.2.2.2⟩ rfl (by omega) (by omega) b1 b2
  refine ⟨u', g1', g2, g3, eqT.tr ⟨fun k hk => ?_, fun k hk => rfl⟩ g4⟩
  rw [stf_1, if_neg (by omega)]
theorem X_now (F : Nat) (hF : 30 ≤ F) {c jn cc jj : Nat} {P : Nat → Nat} (u : St) (hc4 : c ≤ 4) (hj3 : jn ≤ 3) (hPg : PgOK c jn P) (hX : CtX 0 c jn P u) (hc : cc < c) (hj : jj < jn) :
    ∃ u', pX6_verdictNow F (nI cc) (nI jj) u = some (nI (hP P (stg P 0 (P 46)) cc jj).1, u') ∧ u'.2 56 0 = nI (hP P (stg P 0 (P 46)) cc jj).2.2.1 ∧ u'.2 56 1 = nI (hP P (stg P 0 (P 46)) cc jj).2.2.2 ∧ u'.1 26 = nI (hP P (stg P 0 (P 46)) cc jj).2.1 ∧ eqT u u' := by
  obtain ⟨w, g1, g2, g3⟩ := X_prepare F hF u hc4 hj3 hPg hX hc hj (aw := 0) (by omega)
  have q0 := hPg.2.2.1 (2 * cc) (by omega)
  have q1 := hPg.2.2.1 (2 * cc + 1) (by omega)
  have q2 := hPg.2.2.2.2.1 jj hj
  obtain ⟨w', k1, k2, k3, k4⟩ := X_held F hF w g2 q0.1 q1.1 (by omega) (by omega) (by omega) (by omega) (by omega) (fun m => by have := stg_bd hPg 0 (P 46) (Nat.le_refl _) m; omega) q2.2.2
  refine ⟨w', ?_, k2.2.1.1, k2.2.1.2, k3, g3.tr k4⟩
  unfold pX6_verdictNow pX6_prepare
  rw [L0, g1]
  simp only [bd_s]
  rw [k1]
  rfl

