/-! PURE: one number of the page exchanged -/
theorem a00 : (nI 0 = (0 : Int32)) = True := eq_true rfl
theorem a10 : (nI 1 = (0 : Int32)) = False := eq_false (by decide)
theorem a01 : (nI 0 = (1 : Int32)) = False := eq_false (by decide)
theorem a11 : (nI 1 = (1 : Int32)) = True := eq_true rfl
theorem step_train {u v : St} (h : RR u v) (x0 x1 x2 : Int32) : ∃ (r : Int32) (u' v' : St), pX6_train LF x0 x1 x2 u = some (r, u') ∧ pX7_train LF x0 x1 x2 v = some (r, v') ∧ RR u' v' := by
  obtain ⟨c, jn, P, ⟨c1, c2, c3, ⟨y1, y2, y3, y4, y5, y6, y7, y8, y9⟩, c5, c6, c7⟩, R⟩ := id h
  have h46 : P 46 ≤ 4 := c3.1
  have h55 : P 55 ≤ 6 := c3.2.1
  have R' : Rest c jn u v := R
  unfold pX6_train pX7_train pX6_exchange pX7_puts
  rcases two_judge x0 c2 y2 c6 with ⟨a, a1, rfl, e, e'⟩ | ⟨e, e'⟩
  · obtain ⟨z1, z2⟩ := y7 a a1
    have z1' : u.2 7 a = nI (P (40 + a)) := z1
    have z2' : u.2 8 a = nI (P (43 + a)) := z2
    obtain ⟨p1, p2, p3, p4, p5, p6, p7⟩ := c3
    rcases rng x1 (a0 := 0) (b0 := 1) (a1 := 0) (b1 := 1) 0 1 rfl rfl rfl rfl (by omega) (by omega) with ⟨d, d1, d2, rfl, k, -⟩ | ⟨m, k, -⟩
    · have hd : d = 0 ∨ d = 1 := by omega
      rcases hd with rfl | rfl
      · rcases rng x2 (a0 := 0) (b0 := 3) (a1 := 0) (b1 := 3) 0 3 rfl rfl rfl rfl (by omega) (by omega) with ⟨b, b1, b2, rfl, q, q'⟩ | ⟨-, q, q'⟩
        · simp only [e, e', k, q, q', bd_s, i10, jn_e, vl_e, a00, if_true]
          simp (disch := omega) only [L40, L3, pk_mul, nI_add, show lenX 7 = 3 from rfl, gd_i, cl, bd_s, z1', c7.g]
          refine ⟨nI (P (40 + a)), _, sta v 0 (nI (40 + a)) (nI b), rfl, by rw [show 40 + 3 * 0 + a = 40 + a by omega], c, jn, pu P (40 + a) b, ⟨c1, c2, ⟨by rw [pu_n P (by omega)]; exact p1, by rw [pu_n P (by omega)]; exact p2, fun f hf => ?_, fun f hf => ?_, fun f hf => ?_, fun f hf => ?_, fun f hf => ?_⟩, ⟨y1, y2, by rw [pu_n P (by omega)]; exact y3, by rw [pu_n P (by omega)]; exact y4, fun f hf => ?_, fun f hf => ?_, fun f hf => ?_, fun f hf => ?_, fun f hf => ?_⟩, c5, c6, c7.pu (k := 40 + a) (by omega)⟩, ?_⟩
          · rw [pu_n P (by omega), pu_n P (by omega), pu_n P (by omega)]; exact p3 f hf
          · rw [pu_n P (by omega), pu_n P (by omega), pu_n P (by omega), pu_n P (by omega)]; exact p4 f hf
          · rw [pu_n P (show 43 + f ≠ 40 + a by omega)]
            refine ⟨?_, (p5 f hf).2⟩
            by_cases w : f = a
            · rw [w, pu_s]; omega
            · rw [pu_n P (by omega)]; exact (p5 f hf).1
          · rw [pu_n P (by omega)] at hf
            rw [pu_n P (by omega), pu_n P (by omega)]; exact p6 f hf
          · rw [pu_n P (by omega)] at hf
            rw [pu_n P (by omega), pu_n P (by omega)]; exact p7 f hf
          · rw [pu_n P (by omega), pu_n P (by omega), pu_n P (by omega)]; exact y5 f hf
          · rw [pu_n P (by omega), pu_n P (by omega), pu_n P (by omega), pu_n P (by omega)]; exact y6 f hf
          · rw [pu_n P (show 43 + f ≠ 40 + a by omega)]
            refine ⟨?_, (y7 f hf).2⟩
            show (sta u 7 (nI a) (nI b)).2 7 f = _
            rw [sta_h _ _ (by omega)]
            by_cases w : f = a
            · rw [if_pos w, w, pu_s]
            · rw [if_neg w, pu_n P (by omega)]; exact (y7 f hf).1
          · rw [pu_n P (by omega)] at hf
            rw [pu_n P (by omega), pu_n P (by omega)]; exact y8 f hf
          · rw [pu_n P (by omega)] at hf
            rw [pu_n P (by omega), pu_n P (by omega)]; exact y9 f hf
          · exact R'.fr (fun k hk => rfl) (fun k hk => by rw [sta_m _ _ _ (by omega)]) (fun k hk => rfl) (fun k hk => by rw [sta_m _ _ _ hk]) (fun i hi => by rw [sta_h _ _ (by omega), if_neg (by omega)])
        · simp only [e, e', k, q, q', bd_s, i10, i00, jn_e, vl_e, a00, a01, if_true, if_false]
          exact ⟨_, _, _, rfl, rfl, h⟩
      · rcases rng x2 (a0 := 1) (b0 := 9) (a1 := 1) (b1 := 9) 1 9 rfl rfl rfl rfl (by omega) (by omega) with ⟨b, b1, b2, rfl, q, q'⟩ | ⟨-, q, q'⟩
        · simp only [e, e', k, q, q', bd_s, i10, jn_e, vl_e, a10, a11, if_true, if_false]
          simp (disch := omega) only [L40, L3, pk_mul, nI_add, show lenX 8 = 3 from rfl, gd_i, cl, bd_s, z2', c7.g]
          refine ⟨nI (P (43 + a)), _, sta v 0 (nI (43 + a)) (nI b), rfl, by rw [show 40 + 3 * 1 + a = 43 + a by omega], c, jn, pu P (43 + a) b, ⟨c1, c2, ⟨by rw [pu_n P (by omega)]; exact p1, by rw [pu_n P (by omega)]; exact p2, fun f hf => ?_, fun f hf => ?_, fun f hf => ?_, fun f hf => ?_, fun f hf => ?_⟩, ⟨y1, y2, by rw [pu_n P (by omega)]; exact y3, by rw [pu_n P (by omega)]; exact y4, fun f hf => ?_, fun f hf => ?_, fun f hf => ?_, fun f hf => ?_, fun f hf => ?_⟩, c5, c6, c7.pu (k := 43 + a) (by omega)⟩, ?_⟩
          · rw [pu_n P (by omega), pu_n P (by omega), pu_n P (by omega)]; exact p3 f hf
          · rw [pu_n P (by omega), pu_n P (by omega), pu_n P (by omega), pu_n P (by omega)]; exact p4 f hf
          · rw [pu_n P (show 40 + f ≠ 43 + a by omega)]
            refine ⟨(p5 f hf).1, ?_⟩
            by_cases w : f = a
            · rw [w, pu_s]; omega
            · rw [pu_n P (by omega)]; exact (p5 f hf).2
          · rw [pu_n P (by omega)] at hf
            rw [pu_n P (by omega), pu_n P (by omega)]; exact p6 f hf
          · rw [pu_n P (by omega)] at hf
            rw [pu_n P (by omega), pu_n P (by omega)]; exact p7 f hf
          · rw [pu_n P (by omega), pu_n P (by omega), pu_n P (by omega)]; exact y5 f hf
          · rw [pu_n P (by omega), pu_n P (by omega), pu_n P (by omega), pu_n P (by omega)]; exact y6 f hf
          · rw [pu_n P (show 40 + f ≠ 43 + a by omega)]
            refine ⟨(y7 f hf).1, ?_⟩
            show (sta u 8 (nI a) (nI b)).2 8 f = _
            rw [sta_h _ _ (by omega)]
            by_cases w : f = a
            · rw [if_pos w, w, pu_s]
            · rw [if_neg w, pu_n P (by omega)]; exact (y7 f hf).2
          · rw [pu_n P (by omega)] at hf
            rw [pu_n P (by omega), pu_n P (by omega)]; exact y8 f hf
          · rw [pu_n P (by omega)] at hf
            rw [pu_n P (by omega), pu_n P (by omega)]; exact y9 f hf
          · exact R'.fr (fun k hk => rfl) (fun k hk => by rw [sta_m _ _ _ (by omega)]) (fun k hk => rfl) (fun k hk => by rw [sta_m _ _ _ hk]) (fun i hi => by rw [sta_h _ _ (by omega), if_neg (by omega)])
        · simp only [e, e', k, q, q', bd_s, i10, i00, jn_e, vl_e, a10, a11, if_true, if_false]
          exact ⟨_, _, _, rfl, rfl, h⟩
    · have n0 : (x1 = (0 : Int32)) = False := eq_false (by rw [L0]; exact rng_ne m (by omega) (by omega))
      have n1 : (x1 = (1 : Int32)) = False := eq_false (by rw [L1]; exact rng_ne m (by omega) (by omega))
      simp only [e, e', k, bd_s, i10, i00, jn_e, vl_e, n0, n1, if_false]
      exact ⟨_, _, _, rfl, rfl, h⟩
  · simp only [e, e', bd_s, i00, jn_e]
    exact ⟨_, _, _, rfl, rfl, h⟩
