/-! PURE: trim -/
theorem t20 : (nI 2 = (0 : Int32)) = False := eq_false (by decide)
theorem t21 : (nI 2 = (1 : Int32)) = False := eq_false (by decide)
theorem t22 : (nI 2 = (2 : Int32)) = True := eq_true rfl
theorem step_trim {u v : St} (h : RR u v) (x0 x1 x2 x3 : Int32) : ∃ (r : Int32) (u' v' : St), pX6_trim LF x0 x1 x2 x3 u = some (r, u') ∧ pX7_trim LF x0 x1 x2 x3 v = some (r, v') ∧ RR u' v' := by
  obtain ⟨c, jn, P, hC, R⟩ := id h
  obtain ⟨c1, c2, c3, ⟨y1, y2, y3, y4, y5, y6, y7, y8, y9⟩, c5, c6, c7⟩ := id hC
  have R' : Rest c jn u v := R
  unfold pX6_trim pX6_isFlame pX7_trim pX6_exchange pX7_puts
  rcases rng x2 (a0 := 0) (b0 := 2) (a1 := 0) (b1 := 2) 0 2 rfl rfl rfl rfl (by omega) (by omega) with ⟨d, d1, d2, rfl, m, -⟩ | ⟨m, m0, -⟩
  · have hd : d = 0 ∨ d = 1 ∨ d = 2 := by omega
    rcases hd with rfl | rfl | rfl
    · rcases rng x3 (a0 := 0) (b0 := 3) (a1 := 0) (b1 := 3) 0 3 rfl rfl rfl rfl (by omega) (by omega) with ⟨t, t1, t2, rfl, q, q'⟩ | ⟨-, q, q'⟩
      · rcases two_case x0 c1 y1 c5 with ⟨a, a1, rfl, e, e'⟩ | ⟨e, e'⟩
        · rcases two_side x1 with ⟨b, b1, rfl, k, k'⟩ | ⟨k, k'⟩
          · have z0 : u.2 3 a = nI (P (24 + a)) := (y6 a a1).1
            have z1 : u.2 0 (2 * a + b) = nI (P (2 * a + b)) := (y5 (2 * a + b) (by omega)).1
            have hv := (c3.2.2.2.1 a a1).1
            have hB : tabFLAME_BOUNDS (nI 0).toNatClampNeg = 3 := by decide +kernel
            simp only [e, e', k, k', m, q, q', bd_s, i10, i00, jn_e, vl_e, hB, a00, a10, a01, a11, t20, t21, t22, if_true, if_false]
            simp (disch := omega) only [L2, L3, L8, L24, pk_mul, nI_add, gd_i, cl, z0, c7.g, show lenX 0 = 8 from rfl, z1]
            rw [L0]
            simp (disch := omega) only [ifeq]
            by_cases w : P (24 + a) = 0
            · simp only [w, if_true, bd_s]
              exact ⟨nI (P (2 * a + b)), _, sta v 0 (nI (8 * 0 + 2 * a + b)) (nI t), rfl, by rw [show 8 * 0 + 2 * a + b = 2 * a + b by omega], by
                rw [show 8 * 0 + 2 * a + b = 0 + (2 * a + b) by omega]
                exact RR.fl0 hC R' (by omega) (by omega)⟩
            · simp only [w, if_false, bd_s]
              exact ⟨_, _, _, rfl, rfl, h⟩
          · simp only [e, e', k, k', m, q, q', bd_s, i10, i00, jn_e, a00, a10, a01, a11, t20, t21, t22, if_true, if_false]
            exact ⟨_, _, _, rfl, rfl, h⟩
        · simp only [e, e', m, q, q', bd_s, i10, i00, jn_e, a00, a10, a01, a11, t20, t21, t22, if_true, if_false]
          exact ⟨_, _, _, rfl, rfl, h⟩
      · have hB : tabFLAME_BOUNDS (nI 0).toNatClampNeg = 3 := by decide +kernel
        have g3 : inb (nI 0) 3 = true := inb_nI (by omega) (by omega)
        rcases two_case x0 c1 y1 c5 with ⟨a, a1, rfl, e, e'⟩ | ⟨e, e'⟩
        · rcases two_side x1 with ⟨b, b1, rfl, k, k'⟩ | ⟨k, k'⟩
          · simp only [e, e', k, k', m, q, q', bd_s, i10, i00, jn_e, hB, g3, gd_true, a00, a10, a01, a11, t20, t21, t22, if_true, if_false]
            exact ⟨_, _, _, rfl, rfl, h⟩
          · simp only [e, e', k, k', m, q, q', bd_s, i10, i00, jn_e, a00, a10, a01, a11, t20, t21, t22, if_true, if_false]
            exact ⟨_, _, _, rfl, rfl, h⟩
        · simp only [e, e', m, q, q', bd_s, i10, i00, jn_e, a00, a10, a01, a11, t20, t21, t22, if_true, if_false]
          exact ⟨_, _, _, rfl, rfl, h⟩
    · rcases rng x3 (a0 := 0) (b0 := 99) (a1 := 0) (b1 := 99) 0 99 rfl rfl rfl rfl (by omega) (by omega) with ⟨t, t1, t2, rfl, q, q'⟩ | ⟨-, q, q'⟩
      · rcases two_case x0 c1 y1 c5 with ⟨a, a1, rfl, e, e'⟩ | ⟨e, e'⟩
        · rcases two_side x1 with ⟨b, b1, rfl, k, k'⟩ | ⟨k, k'⟩
          · have z0 : u.2 3 a = nI (P (24 + a)) := (y6 a a1).1
            have z1 : u.2 1 (2 * a + b) = nI (P (8 + (2 * a + b))) := (y5 (2 * a + b) (by omega)).2.1
            have hv := (c3.2.2.2.1 a a1).1
            have hB : tabFLAME_BOUNDS (nI 1).toNatClampNeg = 99 := by decide +kernel
            simp only [e, e', k, k', m, q, q', bd_s, i10, i00, jn_e, vl_e, hB, a00, a10, a01, a11, t20, t21, t22, if_true, if_false]
            simp (disch := omega) only [L2, L3, L8, L24, pk_mul, nI_add, gd_i, cl, z0, c7.g, show lenX 1 = 8 from rfl, z1]
            rw [L0]
            simp (disch := omega) only [ifeq]
            by_cases w : P (24 + a) = 0
            · simp only [w, if_true, bd_s]
              exact ⟨nI (P (8 + (2 * a + b))), _, sta v 0 (nI (8 * 1 + 2 * a + b)) (nI t), rfl, by rw [show 8 * 1 + 2 * a + b = 8 + (2 * a + b) by omega], by
                rw [show 8 * 1 + 2 * a + b = 8 + (2 * a + b) by omega]
                exact RR.fl1 hC R' (by omega) (by omega)⟩
            · simp only [w, if_false, bd_s]
              exact ⟨_, _, _, rfl, rfl, h⟩
          · simp only [e, e', k, k', m, q, q', bd_s, i10, i00, jn_e, a00, a10, a01, a11, t20, t21, t22, if_true, if_false]
            exact ⟨_, _, _, rfl, rfl, h⟩
        · simp only [e, e', m, q, q', bd_s, i10, i00, jn_e, a00, a10, a01, a11, t20, t21, t22, if_true, if_false]
          exact ⟨_, _, _, rfl, rfl, h⟩
      · have hB : tabFLAME_BOUNDS (nI 1).toNatClampNeg = 99 := by decide +kernel
        have g3 : inb (nI 1) 3 = true := inb_nI (by omega) (by omega)
        rcases two_case x0 c1 y1 c5 with ⟨a, a1, rfl, e, e'⟩ | ⟨e, e'⟩
        · rcases two_side x1 with ⟨b, b1, rfl, k, k'⟩ | ⟨k, k'⟩
          · simp only [e, e', k, k', m, q, q', bd_s, i10, i00, jn_e, hB, g3, gd_true, a00, a10, a01, a11, t20, t21, t22, if_true, if_false]
            exact ⟨_, _, _, rfl, rfl, h⟩
          · simp only [e, e', k, k', m, q, q', bd_s, i10, i00, jn_e, a00, a10, a01, a11, t20, t21, t22, if_true, if_false]
            exact ⟨_, _, _, rfl, rfl, h⟩
        · simp only [e, e', m, q, q', bd_s, i10, i00, jn_e, a00, a10, a01, a11, t20, t21, t22, if_true, if_false]
          exact ⟨_, _, _, rfl, rfl, h⟩
    · rcases rng x3 (a0 := 0) (b0 := 9) (a1 := 0) (b1 := 9) 0 9 rfl rfl rfl rfl (by omega) (by omega) with ⟨t, t1, t2, rfl, q, q'⟩ | ⟨-, q, q'⟩
      · rcases two_case x0 c1 y1 c5 with ⟨a, a1, rfl, e, e'⟩ | ⟨e, e'⟩
        · rcases two_side x1 with ⟨b, b1, rfl, k, k'⟩ | ⟨k, k'⟩
          · have z0 : u.2 3 a = nI (P (24 + a)) := (y6 a a1).1
            have z1 : u.2 2 (2 * a + b) = nI (P (16 + (2 * a + b))) := (y5 (2 * a + b) (by omega)).2.2
            have hv := (c3.2.2.2.1 a a1).1
            have hB : tabFLAME_BOUNDS (nI 2).toNatClampNeg = 9 := by decide +kernel
            simp only [e, e', k, k', m, q, q', bd_s, i10, i00, jn_e, vl_e, hB, a00, a10, a01, a11, t20, t21, t22, if_true, if_false]
            simp (disch := omega) only [L2, L3, L8, L24, pk_mul, nI_add, gd_i, cl, z0, c7.g, show lenX 2 = 8 from rfl, z1]
            rw [L0]
            simp (disch := omega) only [ifeq]
            by_cases w : P (24 + a) = 0
            · simp only [w, if_true, bd_s]
              exact ⟨nI (P (16 + (2 * a + b))), _, sta v 0 (nI (8 * 2 + 2 * a + b)) (nI t), rfl, by rw [show 8 * 2 + 2 * a + b = 16 + (2 * a + b) by omega], by
                rw [show 8 * 2 + 2 * a + b = 16 + (2 * a + b) by omega]
                exact RR.fl2 hC R' (by omega) (by omega)⟩
            · simp only [w, if_false, bd_s]
              exact ⟨_, _, _, rfl, rfl, h⟩
          · simp only [e, e', k, k', m, q, q', bd_s, i10, i00, jn_e, a00, a10, a01, a11, t20, t21, t22, if_true, if_false]
            exact ⟨_, _, _, rfl, rfl, h⟩
        · simp only [e, e', m, q, q', bd_s, i10, i00, jn_e, a00, a10, a01, a11, t20, t21, t22, if_true, if_false]
          exact ⟨_, _, _, rfl, rfl, h⟩
      · have hB : tabFLAME_BOUNDS (nI 2).toNatClampNeg = 9 := by decide +kernel
        have g3 : inb (nI 2) 3 = true := inb_nI (by omega) (by omega)
        rcases two_case x0 c1 y1 c5 with ⟨a, a1, rfl, e, e'⟩ | ⟨e, e'⟩
        · rcases two_side x1 with ⟨b, b1, rfl, k, k'⟩ | ⟨k, k'⟩
          · simp only [e, e', k, k', m, q, q', bd_s, i10, i00, jn_e, hB, g3, gd_true, a00, a10, a01, a11, t20, t21, t22, if_true, if_false]
            exact ⟨_, _, _, rfl, rfl, h⟩
          · simp only [e, e', k, k', m, q, q', bd_s, i10, i00, jn_e, a00, a10, a01, a11, t20, t21, t22, if_true, if_false]
            exact ⟨_, _, _, rfl, rfl, h⟩
        · simp only [e, e', m, q, q', bd_s, i10, i00, jn_e, a00, a10, a01, a11, t20, t21, t22, if_true, if_false]
          exact ⟨_, _, _, rfl, rfl, h⟩
  · have n0 : (x2 = (0 : Int32)) = False := eq_false (by rw [L0]; exact rng_ne m (by omega) (by omega))
    have n1 : (x2 = (1 : Int32)) = False := eq_false (by rw [L1]; exact rng_ne m (by omega) (by omega))
    have n2 : (x2 = (2 : Int32)) = False := eq_false (by rw [L2]; exact rng_ne m (by omega) (by omega))
    rcases two_case x0 c1 y1 c5 with ⟨a, a1, rfl, e, e'⟩ | ⟨e, e'⟩
    · rcases two_side x1 with ⟨b, b1, rfl, k, k'⟩ | ⟨k, k'⟩
      · simp only [e, e', k, k', m0, n0, n1, n2, bd_s, i10, i00, jn_e, if_false, if_true]
        exact ⟨_, _, _, rfl, rfl, h⟩
      · simp only [e, e', k, k', n0, n1, n2, bd_s, i10, i00, jn_e, if_false, if_true]
        exact ⟨_, _, _, rfl, rfl, h⟩
    · simp only [e, e', n0, n1, n2, bd_s, i10, i00, jn_e, if_false, if_true]
      exact ⟨_, _, _, rfl, rfl, h⟩
