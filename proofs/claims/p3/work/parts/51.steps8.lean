/-! PURE: a hearing that is tried -/
theorem hP_bd {c jn cc jj : Nat} {P : Nat → Nat} (hP' : PgOK c jn P) (S : Nat → Nat) (hc : cc < c) (hj : jj < jn) : 1 ≤ (hP P S cc jj).1 ∧ (hP P S cc jj).1 ≤ 3 ∧ (hP P S cc jj).2.1 ≤ 9 ∧ (hP P S cc jj).2.2.1 ≤ 99 ∧ (hP P S cc jj).2.2.2 ≤ 99 := by
  have q0 := hP'.2.2.1 (2 * cc) (by omega)
  have q1 := hP'.2.2.1 (2 * cc + 1) (by omega)
  have q2 := hP'.2.2.2.2.1 jj hj
  unfold hP
  obtain ⟨g1, g2, g3, g4, g5⟩ := hRun_bd (bn (P (2 * cc))) (bn (P (2 * cc + 1))) (P (16 + 2 * cc)) (P (16 + (2 * cc + 1))) (P (40 + jj)) (P (43 + jj)) S 10 0 (P (8 + 2 * cc)) (P (8 + (2 * cc + 1))) (by omega) (by omega)
  exact ⟨g1, g2, by omega, by omega, by omega⟩
theorem M_len (F : Nat) {p cc : Nat} {Q : Nat → Nat} (v : St) (hp : p < 6) (hM : PgM p Q v) (hc : cc < 4) : pX7_lengthOf F (nI (68 * p)) (nI cc) v = some (nI (Q (8 + 2 * cc) + Q (8 + (2 * cc + 1))), v) := by
  unfold pX7_lengthOf
  simp (disch := omega) only [L8, L2, L1, pk_mul, nI_add, gd_i, cl]
  rw [show 68 * p + 8 + 2 * cc = 68 * p + (8 + 2 * cc) by omega, show 68 * p + (8 + 2 * cc) + 1 = 68 * p + (8 + (2 * cc + 1)) by omega, hM _ (by omega), hM _ (by omega), nI_add]
theorem menv0 {v : St} (h : RConst v) : MEnv 0 0 0 v := ⟨by omega, h.1, Or.inl rfl, h.2.1, by omega, by omega, h.2.2.1⟩
/-- what a trial leaves of the reference -/
theorem tries0 (F : Nat) (hF : 80 ≤ F) {c jn cc jj : Nat} {P : Nat → Nat} (v : St) (hc4 : c ≤ 4) (hj3 : jn ≤ 3) (hPg : PgOK c jn P) (hM : PgM 0 P v) (hc : RConst v) (h1 : cc < c) (h2 : jj < jn) :
    ∃ v', pX7_tries F 0 (nI cc) (nI jj) v = some (nI (hP P (stg P 0 (P 46)) cc jj).1, v') ∧ PgM 4 (lw P cc (hP P (stg P 0 (P 46)) cc jj).2.2.1 (hP P (stg P 0 (P 46)) cc jj).2.2.2) v' ∧ v'.1 18 = nI (hP P (stg P 0 (P 46)) cc jj).2.1 ∧ eqM v v' := by
  obtain ⟨v', k1, k2, k3, k4, k5, k6⟩ := M_tries F hF (p := 0) v (by omega) (by omega) hc4 hj3 hPg hM (menv0 hc) h1 h2
  rw [stm_0] at k1 k2 k3
  refine ⟨v', k1, k2, k3, fun i hi => k6 i (by omega), ⟨k4 0 (by omega), k4 1 (by omega), k4 7 (by omega), k4 8 (by omega), k4 15 (by omega), k4 17 (by omega), k4 21 (by omega), k4 22 (by omega)⟩, fun k hk => k5 k (by omega)⟩
theorem step_foretell {u v : St} (h : RR u v) (x0 x1 x2 : Int32) : ∃ (r : Int32) (u' v' : St), pX6_foretell LF x0 x1 x2 u = some (r, u') ∧ pX7_foretell LF x0 x1 x2 v = some (r, v') ∧ RR u' v' := by
  obtain ⟨c, jn, P, ⟨c1, c2, c3, hX, c5, c6, c7⟩, i0, i1, hs, ht, hw, htn, hsh, hc⟩ := id h
  obtain ⟨y1, y2, -⟩ := id hX
  unfold pX6_foretell pX7_foretell pX7_isHeard
  rcases two_case x0 c1 y1 c5 with ⟨a, a1, rfl, e, e'⟩ | ⟨e, e'⟩
  · rcases two_judge x1 c2 y2 c6 with ⟨b, b1, rfl, k, k'⟩ | ⟨k, k'⟩
    · rcases rng x2 (a0 := 0) (b0 := 2) (a1 := 0) (b1 := 2) 0 2 rfl rfl rfl rfl (by omega) (by omega) with ⟨d, d1, d2, rfl, q, q'⟩ | ⟨-, q, q'⟩
      · have hLF : 80 ≤ LF := by decide
        obtain ⟨w, g1, g2, g3, g4, g5⟩ := X_now LF (by omega) u c1 c2 c3 hX a1 b1
        obtain ⟨v', k1, k2, k3, k4⟩ := tries0 LF hLF v c1 c2 c3 c7 hc a1 b1
        obtain ⟨b1', b2', b3', b4', b5'⟩ := hP_bd c3 (stg P 0 (P 46)) a1 b1
        have hR : RR w v' := h.eq g5.x k4
        simp only [e, e', k, k', q, q', bd_s, i10, g1, k1]
        have hd : d = 0 ∨ d = 1 ∨ d = 2 := by omega
        rcases hd with rfl | rfl | rfl
        · simp only [a00, if_true]
          exact ⟨_, _, _, rfl, rfl, hR⟩
        · simp only [a10, a11, if_true, if_false, g4, k3]
          exact ⟨_, _, _, rfl, rfl, hR⟩
        · simp only [t20, t21, if_false]
          have m := M_len LF (p := 4) (cc := a) v' (by omega) k2 (by omega)
          rw [lw_0, lw_1] at m
          rw [L272, show nI 272 = nI (68 * 4) from rfl, m, bd_s, L0, L1, gd_i (by omega) (by omega), gd_i (by omega) (by omega), cl (by omega), cl (by omega), g2, g3, nI_add]
          exact ⟨_, _, _, rfl, rfl, hR⟩
      · simp only [e, e', k, k', q, q', bd_s, i10, i00]
        exact ⟨_, _, _, rfl, rfl, h⟩
    · simp only [e, e', k, k', bd_s, i10, i00]
      exact ⟨_, _, _, rfl, rfl, h⟩
  · simp only [e, e', bd_s, i00]
    exact ⟨_, _, _, rfl, rfl, h⟩
