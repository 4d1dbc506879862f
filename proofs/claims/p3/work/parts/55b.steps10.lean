/-! PURE: hear -/
theorem b02 : inb 0 2 = true := by decide +kernel
theorem b12 : inb 1 2 = true := by decide +kernel
theorem tc0 : Int32.toNatClampNeg 0 = 0 := by decide +kernel
theorem tc1 : Int32.toNatClampNeg 1 = 1 := by decide +kernel
theorem X_good0 (F : Nat) {a r m l0 l1 : Nat} {x2 : Int32} (w u : St) (ha : a < 4) (g1 : pX6_verdictNow F (nI a) x2 u = some (nI r, w)) (g2 : w.2 56 0 = nI l0) (g3 : w.2 56 1 = nI l1) (g4 : w.1 26 = nI m) : pX6_hearForGood F (nI a) x2 u = some (nI r, sta (sta (sta (sta (sta w 1 (nI (2 * a)) (nI l0)) 1 (nI (2 * a + 1)) (nI l1)) 3 (nI a) (nI r)) 5 (nI a) (nI m)) 6 (nI a) x2) := by
  unfold pX6_hearForGood
  rw [g1, bd_s, b02, gd_true, tm2, gd_i (by omega) (by omega), vl_e, tc0, g2, b12, gd_true, nI_s, gd_i (by omega) (by omega), vl_e, tc1, sta_m _ _ _ (show 56 ≠ 1 by omega), g3, gd_i (by omega) (by omega), vl_e, gd_i (by omega) (by omega), vl_e, sta_1, sta_1, sta_1, g4, gd_i (by omega) (by omega), vl_e]
theorem X_good (F : Nat) (hF : 30 ≤ F) {c jn a b : Nat} {P : Nat → Nat} (u : St) (hc4 : c ≤ 4) (hj3 : jn ≤ 3) (hPg : PgOK c jn P) (hX : CtX 0 c jn P u) (ha : a < c) (hb : b < jn) :
    ∃ u', pX6_hearForGood F (nI a) (nI b) u = some (nI (hP P (stg P 0 (P 46)) a b).1, u') ∧ CtX 0 c jn (pgH P a b (hP P (stg P 0 (P 46)) a b).1 (hP P (stg P 0 (P 46)) a b).2.1 (hP P (stg P 0 (P 46)) a b).2.2.1 (hP P (stg P 0 (P 46)) a b).2.2.2) u' ∧ (∀ k, (k < 24 ∨ 26 < k) → u'.1 k = u.1 k) ∧ (∀ k, 13 ≤ k → (k < 55 ∨ 58 < k) → u'.2 k = u.2 k) := by
  obtain ⟨w, g1, g2, g3, g4, g5⟩ := X_now F hF u hc4 hj3 hPg hX ha hb
  obtain ⟨y1, y2, y3, y4, y5, y6, y7, y8, y9⟩ := hX.eq (by omega) g5.x
  have p1 := hPg.1
  have p2 := hPg.2.1
  generalize hP P (stg P 0 (P 46)) a b = H at *
  obtain ⟨u', hu⟩ : ∃ u', u' = sta (sta (sta (sta (sta w 1 (nI (2 * a)) (nI H.2.2.1)) 1 (nI (2 * a + 1)) (nI H.2.2.2)) 3 (nI a) (nI H.1)) 5 (nI a) (nI H.2.1)) 6 (nI a) (nI b) := ⟨_, rfl⟩
  have u1 : u'.1 = w.1 := by rw [hu]; simp only [sta_1]
  have uo : ∀ k, k ≠ 1 → k ≠ 3 → k ≠ 5 → k ≠ 6 → u'.2 k = w.2 k := fun k h1 h2 h3 h4 => by
    rw [hu, sta_m _ _ _ h4, sta_m _ _ _ h3, sta_m _ _ _ h2, sta_m _ _ _ h1, sta_m _ _ _ h1]
  have ua1 : ∀ f, u'.2 1 f = if f = 2 * a + 1 then nI H.2.2.2 else if f = 2 * a then nI H.2.2.1 else w.2 1 f := fun f => by
    rw [hu, sta_m _ _ _ (by omega), sta_m _ _ _ (by omega), sta_m _ _ _ (by omega), sta_h _ _ (by omega), sta_h _ _ (by omega)]
  have ua3 : ∀ f, u'.2 3 f = if f = a then nI H.1 else w.2 3 f := fun f => by
    rw [hu, sta_m _ _ _ (by omega), sta_m _ _ _ (by omega), sta_h _ _ (by omega), sta_m _ _ _ (by omega), sta_m _ _ _ (by omega)]
  have ua5 : ∀ f, u'.2 5 f = if f = a then nI H.2.1 else w.2 5 f := fun f => by
    rw [hu, sta_m _ _ _ (by omega), sta_h _ _ (by omega), sta_m _ _ _ (by omega), sta_m _ _ _ (by omega), sta_m _ _ _ (by omega)]
  have ua6 : ∀ f, u'.2 6 f = if f = a then nI b else w.2 6 f := fun f => by
    rw [hu, sta_h _ _ (by omega), sta_m _ _ _ (by omega), sta_m _ _ _ (by omega), sta_m _ _ _ (by omega), sta_m _ _ _ (by omega)]
  refine ⟨u', ?_, ⟨by rw [u1]; exact y1, by rw [u1]; exact y2, by rw [u1, pgH_o P (by omega) (by omega) (by omega) (by omega) (by omega)]; exact y3, by rw [u1, pgH_o P (by omega) (by omega) (by omega) (by omega) (by omega)]; exact y4, fun f hf => ?_, fun f hf => ?_, fun f hf => ?_, fun f hf => ?_, fun f hf => ?_⟩, fun k hk => by rw [u1, g5.1 k hk], fun k h1 h2 => by rw [uo k (by omega) (by omega) (by omega) (by omega), g5.2 k h2]⟩
  · rw [hu]
    exact X_good0 F w u (by omega) g1 g2 g3 g4
  · obtain ⟨w0, w1, w2⟩ := y5 f hf
    rw [pgH_o P (j := f) (by omega) (by omega) (by omega) (by omega) (by omega), pgH_o P (j := 16 + f) (by omega) (by omega) (by omega) (by omega) (by omega)]
    refine ⟨by rw [uo _ (by omega) (by omega) (by omega) (by omega)]; exact w0, ?_, by rw [uo _ (by omega) (by omega) (by omega) (by omega)]; exact w2⟩
    show u'.2 1 f = _
    rw [ua1]
    unfold pgH lw
    rw [if_neg (show 8 + f ≠ 24 + a by omega), if_neg (show 8 + f ≠ 32 + a by omega), if_neg (show 8 + f ≠ 36 + a by omega)]
    by_cases q1 : f = 2 * a + 1
    · rw [if_pos q1, if_neg (by omega), if_pos (by omega)]
    · rw [if_neg q1]
      by_cases q2 : f = 2 * a
      · rw [if_pos q2, if_pos (by omega)]
      · rw [if_neg q2, if_neg (by omega), if_neg (by omega)]; exact w1
  · obtain ⟨w0, w1, w2, w3⟩ := y6 f hf
    rw [pgH_o P (j := 28 + f) (by omega) (by omega) (by omega) (by omega) (by omega)]
    refine ⟨?_, by rw [uo _ (by omega) (by omega) (by omega) (by omega)]; exact w1, ?_, ?_⟩
    · show u'.2 3 f = _
      rw [ua3]
      by_cases q : f = a
      · unfold pgH; rw [if_pos q, if_pos (by omega)]
      · rw [if_neg q, pgH_o P (by omega) (by omega) (by omega) (by omega) (by omega)]; exact w0
    · show u'.2 5 f = _
      rw [ua5]
      by_cases q : f = a
      · unfold pgH; rw [if_pos q, if_neg (by omega), if_pos (by omega), off_s]
      · rw [if_neg q, pgH_o P (by omega) (by omega) (by omega) (by omega) (by omega)]; exact w2
    · show u'.2 6 f = _
      rw [ua6]
      by_cases q : f = a
      · unfold pgH; rw [if_pos q, if_neg (by omega), if_neg (by omega), if_pos (by omega), off_s]
      · rw [if_neg q, pgH_o P (by omega) (by omega) (by omega) (by omega) (by omega)]; exact w3
  · rw [pgH_o P (by omega) (by omega) (by omega) (by omega) (by omega), pgH_o P (by omega) (by omega) (by omega) (by omega) (by omega), uo _ (by omega) (by omega) (by omega) (by omega), uo _ (by omega) (by omega) (by omega) (by omega)]; exact y7 f hf
  · rw [pgH_o P (by omega) (by omega) (by omega) (by omega) (by omega)] at hf
    rw [pgH_o P (by omega) (by omega) (by omega) (by omega) (by omega), pgH_o P (by omega) (by omega) (by omega) (by omega) (by omega), uo _ (by omega) (by omega) (by omega) (by omega), uo _ (by omega) (by omega) (by omega) (by omega)]; exact y8 f hf
  · rw [pgH_o P (by omega) (by omega) (by omega) (by omega) (by omega)] at hf
    rw [pgH_o P (by omega) (by omega) (by omega) (by omega) (by omega), pgH_o P (by omega) (by omega) (by omega) (by omega) (by omega), uo _ (by omega) (by omega) (by omega) (by omega), uo _ (by omega) (by omega) (by omega) (by omega)]; exact y9 f hf
theorem step_hear {u v : St} (h : RR u v) (x0 x1 : Int32) : ∃ (r : Int32) (u' v' : St), pX6_hear LF x0 x1 u = some (r, u') ∧ pX7_hear LF x0 x1 v = some (r, v') ∧ RR u' v' := by
  obtain ⟨c, jn, P, ⟨c1, c2, c3, hX, c5, c6, c7⟩, R⟩ := id h
  obtain ⟨y1, y2, -, -, -, y6, -⟩ := id hX
  have R' : Rest c jn u v := R
  unfold pX6_hear pX7_hear pX7_hears pX7_isHeard
  rcases two_case x0 c1 y1 c5 with ⟨a, a1, rfl, e, e'⟩ | ⟨e, e'⟩
  · rcases two_judge x1 c2 y2 c6 with ⟨b, b1, rfl, k, k'⟩ | ⟨k, k'⟩
    · have z0 : u.2 3 a = nI (P (24 + a)) := (y6 a a1).1
      have hv := (c3.2.2.2.1 a a1).1
      simp only [e, e', k, k', bd_s, i10]
      simp (disch := omega) only [L24, nI_add, gd_i, cl, z0, c7.g]
      rw [L0]
      simp (disch := omega) only [ifeq]
      by_cases w : P (24 + a) = 0
      · simp only [w, if_true]
        obtain ⟨u', g1, g2, g3, g4⟩ := X_good LF (by decide) u c1 c2 c3 hX a1 b1
        obtain ⟨v', k1, k2, k3, k4, k5⟩ := M_judges LF (by decide) (p := 0) v (by omega) c1 c2 c3 c7 (menv0 R'.2.2.2.2.2.2.2) a1 b1
        rw [stm_0] at k1 k2
        obtain ⟨q1, q2, q3, q4, q5⟩ := hP_bd c3 (stg P 0 (P 46)) a1 b1
        rw [show nI (68 * 0) = nI 0 from rfl] at k1
        rw [g1, k1]
        simp only [bd_s]
        exact ⟨_, _, _, rfl, rfl, c, jn, _, ⟨c1, c2, pgH_ok c3 c1 c2 a1 b1 q2 (by omega) q4 q5, g2, by rw [k3 0 (by omega)]; exact c5, by rw [k3 1 (by omega)]; exact c6, k2⟩, R'.frw (fun k h1 h2 => g3 k (by omega)) (fun k h1 h2 => g4 k h1 (by omega)) (fun k hk => k3 k (by omega)) (fun k hk => k4 k (by omega)) (fun i h1 h2 => k5 i (by omega))⟩
      · simp only [w, if_false, bd_s]
        exact ⟨_, _, _, rfl, rfl, h⟩
    · simp only [e, e', k, k', bd_s, i10, i00]
      exact ⟨_, _, _, rfl, rfl, h⟩
  · simp only [e, e', bd_s, i00]
    exact ⟨_, _, _, rfl, rfl, h⟩
