/-! PURE: the memory -/
theorem step_forget {u v : St} (h : RR u v) (x0 : Int32) : ∃ (r : Int32) (u' v' : St), pX6_forget LF x0 u = some (r, u') ∧ pX7_forget LF x0 v = some (r, v') ∧ RR u' v' := by
  obtain ⟨c, jn, P, hC, i0, i1, ⟨n, n1, n2, n3, n4⟩, ht, hw, htn, hsh, hc⟩ := id h
  unfold pX6_forget pX7_forget
  have hb : (nI n).toInt = (n : Int) := tI (by omega)
  rcases rng x0 (a0 := 0) (b0 := nI n) (a1 := 0) (b1 := Int32.toInt64 (nI n)) 0 n rfl rfl hb (by rw [tI64]; exact hb) (by omega) (by omega) with ⟨b, b1, b2, rfl, e, e'⟩ | ⟨-, e, e'⟩
  · rw [n2, n3, e, e', bd_s, bd_s, i10, i10]
    simp only [vl_e, n2, n3]
    exact ⟨nI n, _, _, rfl, rfl, c, jn, P, hC, i0, i1, ⟨b, by omega, rfl, rfl, fun i hi => n4 i (by omega)⟩, ht, hw, htn, hsh, hc⟩
  · rw [n2, n3, e, e', bd_s, bd_s, i00, i00]
    exact ⟨_, _, _, rfl, rfl, h⟩
theorem step_see {u v : St} (h : RR u v) (x0 x1 x2 : Int32) : ∃ (r : Int32) (u' v' : St), pX6_see LF x0 x1 x2 u = some (r, u') ∧ pX7_see LF x0 x1 x2 v = some (r, v') ∧ RR u' v' := by
  obtain ⟨c, jn, P, hC, i0, i1, ⟨n, n1, n2, n3, n4⟩, ht, hw, htn, hsh, hc⟩ := id h
  obtain ⟨c1, c2, c3, ⟨y1, y2, -⟩, c5, c6, c7⟩ := id hC
  unfold pX6_see pX7_see pX7_isHeard pX1_add
  rcases two_case x0 c1 y1 c5 with ⟨a, a1, rfl, e, e'⟩ | ⟨e, e'⟩
  · rcases two_judge x1 c2 y2 c6 with ⟨b, b1, rfl, k, k'⟩ | ⟨k, k'⟩
    · rcases rng x2 (a0 := 1) (b0 := 3) (a1 := 1) (b1 := 3) 1 3 rfl rfl rfl rfl (by omega) (by omega) with ⟨d, d1, d2, rfl, q, q'⟩ | ⟨-, q, q'⟩
      · simp only [e, e', k, k', q, q', bd_s, i10, n2, n3]
        rw [L6, ifeq (by omega) (by omega), iflt (by omega) (by omega)]
        by_cases hn : n = 6
        · rw [if_pos hn, if_neg (by omega), bd_s, i00]
          exact ⟨_, _, _, rfl, rfl, h⟩
        · rw [if_neg hn, if_pos (by omega)]
          simp (disch := omega) only [L1, L2, L3, pk_mul, nI_add, gd_i, vl_e, sta_1, n2, n3]
          rw [bd_s, if_neg (show ¬ nI 1 = 0 by decide), stf_1, stf_1, if_pos rfl, if_pos rfl]
          refine ⟨nI (n + 1), _, _, rfl, rfl, c, jn, P, hC, i0, i1, ⟨n + 1, by omega, rfl, rfl, fun i hi => ?_⟩, ht, hw, htn, hsh, hc⟩
          show ∃ a' b' d' : Nat, a' < c ∧ b' < jn ∧ 1 ≤ d' ∧ d' ≤ 3 ∧ (sta (sta (sta u 60 (nI n) (nI a)) 61 (nI n) (nI b)) 62 (nI n) (nI d)).2 60 i = nI a' ∧ (sta (sta (sta u 60 (nI n) (nI a)) 61 (nI n) (nI b)) 62 (nI n) (nI d)).2 61 i = nI b' ∧ (sta (sta (sta u 60 (nI n) (nI a)) 61 (nI n) (nI b)) 62 (nI n) (nI d)).2 62 i = nI d' ∧ (sta (sta (sta v 7 (nI (3 * n)) (nI a)) 7 (nI (3 * n + 1)) (nI b)) 7 (nI (3 * n + 2)) (nI d)).2 7 (3 * i) = nI a' ∧ (sta (sta (sta v 7 (nI (3 * n)) (nI a)) 7 (nI (3 * n + 1)) (nI b)) 7 (nI (3 * n + 2)) (nI d)).2 7 (3 * i + 1) = nI b' ∧ (sta (sta (sta v 7 (nI (3 * n)) (nI a)) 7 (nI (3 * n + 1)) (nI b)) 7 (nI (3 * n + 2)) (nI d)).2 7 (3 * i + 2) = nI d'
          rw [sta_m _ _ _ (show 60 ≠ 62 by omega), sta_m _ _ _ (show 60 ≠ 61 by omega), sta_h _ _ (by omega), sta_m _ _ _ (show 61 ≠ 62 by omega), sta_h _ _ (by omega), sta_m _ _ _ (show 61 ≠ 60 by omega), sta_h _ _ (by omega), sta_m _ _ _ (show 62 ≠ 61 by omega), sta_m _ _ _ (show 62 ≠ 60 by omega)]
          simp only [sta_h v 7 (show 3 * n < 2147483648 by omega), sta_h _ 7 (show 3 * n + 1 < 2147483648 by omega), sta_h _ 7 (show 3 * n + 2 < 2147483648 by omega)]
          by_cases w : i = n
          · refine ⟨a, b, d, a1, b1, by omega, by omega, by rw [if_pos w], by rw [if_pos w], by rw [if_pos w], ?_, ?_, ?_⟩
            · rw [if_neg (by omega), if_neg (by omega), if_pos (by omega)]
            · rw [if_neg (by omega), if_pos (by omega)]
            · rw [if_pos (by omega)]
          · obtain ⟨a', b', d', m1, m2, m3, m4, m5, m6, m7, m8, m9, m10⟩ := n4 i (by omega)
            refine ⟨a', b', d', m1, m2, m3, m4, by rw [if_neg w]; exact m5, by rw [if_neg w]; exact m6, by rw [if_neg w]; exact m7, ?_, ?_, ?_⟩
            · rw [if_neg (by omega), if_neg (by omega), if_neg (by omega)]; exact m8
            · rw [if_neg (by omega), if_neg (by omega), if_neg (by omega)]; exact m9
            · rw [if_neg (by omega), if_neg (by omega), if_neg (by omega)]; exact m10
      · simp only [e, e', k, k', q, q', bd_s, i10, i00]
        exact ⟨_, _, _, rfl, rfl, h⟩
    · simp only [e, e', k, k', bd_s, i10, i00]
      exact ⟨_, _, _, rfl, rfl, h⟩
  · simp only [e, e', bd_s, i00]
    exact ⟨_, _, _, rfl, rfl, h⟩
