/-! PURE: a draught more, a hearing more -/
theorem step_blow {u v : St} (h : RR u v) (x0 x1 : Int32) : ∃ (r : Int32) (u' v' : St), pX6_blow LF x0 x1 u = some (r, u') ∧ pX7_blow LF x0 x1 v = some (r, v') ∧ RR u' v' := by
  obtain ⟨c, jn, P, ⟨c1, c2, c3, ⟨y1, y2, y3, y4, y5, y6, y7, y8, y9⟩, c5, c6, c7⟩, R⟩ := id h
  have h46 : P 46 ≤ 4 := c3.1
  have y3' : u.1 2 = nI (P 46) := y3
  unfold pX6_blow pX7_blow pX0_addDraught
  rcases rng x0 (a0 := 0) (b0 := 20) (a1 := 0) (b1 := 20) 0 20 rfl rfl rfl rfl (by omega) (by omega) with ⟨a, a1, a2, rfl, e, e'⟩ | ⟨-, e, e'⟩
  · rcases rng x1 (a0 := 1) (b0 := 9) (a1 := 1) (b1 := 9) 1 9 rfl rfl rfl rfl (by omega) (by omega) with ⟨b, b1, b2, rfl, k, k'⟩ | ⟨-, k, k'⟩
    · simp only [e, e', k, k', bd_s, i10, show 4 * 0 + 2 = 2 from rfl, show 13 * 0 + 9 = 9 from rfl, show 13 * 0 + 10 = 10 from rfl]
      rw [L46, gd_i (by omega) (by omega), cl (by omega), c7.g (by omega), L4, ifeq (by omega) (by omega), y3', iflt (by omega) (by omega)]
      by_cases hn : P 46 = 4
      · rw [if_pos hn, if_neg (by omega), bd_s, i00]
        exact ⟨_, _, _, rfl, rfl, h⟩
      · rw [if_neg hn, if_pos (by omega)]
        have q1 : (sta v 0 (nI (47 + P 46)) (nI a)).2 0 46 = nI (P 46) := by rw [sta_h _ _ (by omega), if_neg (by omega), c7.g (by omega)]
        have q2 : (sta (sta v 0 (nI (47 + P 46)) (nI a)) 0 (nI (51 + P 46)) (nI b)).2 0 46 = nI (P 46) := by rw [sta_h _ _ (by omega), if_neg (by omega), q1]
        have q3 : ∀ w x, (sta w 0 (nI 46) x).2 0 46 = x := fun w x => by rw [sta_h _ _ (by omega), if_pos rfl]
        simp (disch := omega) only [gd_i, cl, nI_add, L47, L51, L1, vl_e, sta_1, y3', q1, q2, q3, c7.g]
        rw [bd_s, if_neg (show ¬ nI 1 = 0 by decide), stf_1, if_pos rfl]
        obtain ⟨P', hP'⟩ : ∃ P', P' = pu (pu (pu P (47 + P 46) a) (51 + P 46) b) 46 (P 46 + 1) := ⟨_, rfl⟩
        have hp : ∀ j, (j < 46 ∨ 54 < j) → P' j = P j := fun j hj => by rw [hP', pu_n _ (by omega), pu_n _ (by omega), pu_n _ (by omega)]
        have hp46 : P' 46 = P 46 + 1 := by rw [hP', pu_s]
        have hp47 : ∀ i, i < 4 → P' (47 + i) = if i = P 46 then a else P (47 + i) := fun i hi => by
          rw [hP', pu_n _ (by omega), pu_n _ (by omega)]
          by_cases q : i = P 46
          · rw [if_pos q, q, pu_s]
          · rw [if_neg q, pu_n _ (by omega)]
        have hp51 : ∀ i, i < 4 → P' (51 + i) = if i = P 46 then b else P (51 + i) := fun i hi => by
          rw [hP', pu_n _ (by omega)]
          by_cases q : i = P 46
          · rw [if_pos q, q, pu_s]
          · rw [if_neg q, pu_n _ (by omega), pu_n _ (by omega)]
        obtain ⟨p1, p2, p3, p4, p5, p6, p7⟩ := c3
        refine ⟨nI (P 46 + 1), _, _, rfl, rfl, c, jn, P', ⟨c1, c2, ⟨by omega, by rw [hp _ (by omega)]; exact p2, fun f hf => ?_, fun f hf => ?_, fun f hf => ?_, fun f hf => ?_, fun f hf => ?_⟩, ⟨y1, y2, by rw [hp46]; rfl, by rw [hp 55 (by omega)]; exact y4, fun f hf => ?_, fun f hf => ?_, fun f hf => ?_, fun f hf => ?_, fun f hf => ?_⟩, c5, c6, ?_⟩, ?_⟩
        · rw [hp _ (by omega), hp _ (by omega), hp _ (by omega)]; exact p3 f hf
        · rw [hp _ (by omega), hp _ (by omega), hp _ (by omega), hp _ (by omega)]; exact p4 f hf
        · rw [hp _ (by omega), hp _ (by omega)]; exact p5 f hf
        · rw [hp46] at hf
          rw [hp47 f (by omega), hp51 f (by omega)]
          by_cases q : f = P 46
          · rw [if_pos q, if_pos q]; omega
          · rw [if_neg q, if_neg q]; exact p6 f (by omega)
        · rw [hp _ (by omega)] at hf
          rw [hp _ (by omega), hp _ (by omega)]; exact p7 f hf
        · rw [hp _ (by omega), hp _ (by omega), hp _ (by omega)]; exact y5 f hf
        · rw [hp _ (by omega), hp _ (by omega), hp _ (by omega), hp _ (by omega)]; exact y6 f hf
        · rw [hp _ (by omega), hp _ (by omega)]; exact y7 f hf
        · rw [hp46] at hf
          rw [hp47 f (by omega), hp51 f (by omega)]
          show (sta (sta u 9 (nI (P 46)) (nI a)) 10 (nI (P 46)) (nI b)).2 9 f = _ ∧ (sta (sta u 9 (nI (P 46)) (nI a)) 10 (nI (P 46)) (nI b)).2 10 f = _
          rw [sta_m _ _ _ (show 9 ≠ 10 by omega), sta_h _ _ (by omega), sta_h _ _ (by omega), sta_m _ _ _ (show 10 ≠ 9 by omega)]
          by_cases q : f = P 46
          · simp only [if_pos q, and_self]
          · simp only [if_neg q]; exact y8 f (by omega)
        · rw [hp _ (by omega)] at hf
          rw [hp _ (by omega), hp _ (by omega)]; exact y9 f hf
        · rw [hP']
          exact ((c7.pu (k := 47 + P 46) (x := a) (by omega)).pu (k := 51 + P 46) (x := b) (by omega)).pu (k := 46) (x := P 46 + 1) (by omega)
        · have R' : Rest c jn u v := R
          exact R'.fr (fun k hk => by rw [stf_1, if_neg (by omega)]; rfl) (fun k hk => by rw [stf_2, sta_m _ _ _ (by omega), sta_m _ _ _ (by omega)]) (fun k hk => rfl) (fun k hk => by rw [sta_m _ _ _ hk, sta_m _ _ _ hk, sta_m _ _ _ hk]) (fun i hi => by rw [sta_h _ _ (by omega), if_neg (by omega), sta_h _ _ (by omega), if_neg (by omega), sta_h _ _ (by omega), if_neg (by omega)])
    · simp only [e, e', k, k', bd_s, i10, i00]
      exact ⟨_, _, _, rfl, rfl, h⟩
  · simp only [e, e', bd_s, i00]
    exact ⟨_, _, _, rfl, rfl, h⟩
theorem step_plan {u v : St} (h : RR u v) (x0 x1 : Int32) : ∃ (r : Int32) (u' v' : St), pX6_plan LF x0 x1 u = some (r, u') ∧ pX7_plan LF x0 x1 v = some (r, v') ∧ RR u' v' := by
  obtain ⟨c, jn, P, ⟨c1, c2, c3, ⟨y1, y2, y3, y4, y5, y6, y7, y8, y9⟩, c5, c6, c7⟩, R⟩ := id h
  have h55 : P 55 ≤ 6 := c3.2.1
  have h46 : P 46 ≤ 4 := c3.1
  have y4' : u.1 3 = nI (P 55) := y4
  unfold pX6_plan pX7_plan pX0_addHearing
  rcases two_case x0 c1 y1 c5 with ⟨a, a1, rfl, e, e'⟩ | ⟨e, e'⟩
  · rcases two_judge x1 c2 y2 c6 with ⟨b, b1, rfl, k, k'⟩ | ⟨k, k'⟩
    · simp only [e, e', k, k', bd_s, i10, show 4 * 0 + 3 = 3 from rfl, show 13 * 0 + 11 = 11 from rfl, show 13 * 0 + 12 = 12 from rfl]
      rw [L55, gd_i (by omega) (by omega), cl (by omega), c7.g (by omega), L6, ifeq (by omega) (by omega), y4', iflt (by omega) (by omega)]
      by_cases hn : P 55 = 6
      · rw [if_pos hn, if_neg (by omega), bd_s, i00]
        exact ⟨_, _, _, rfl, rfl, h⟩
      · rw [if_neg hn, if_pos (by omega)]
        have q1 : (sta v 0 (nI (56 + P 55)) (nI a)).2 0 55 = nI (P 55) := by rw [sta_h _ _ (by omega), if_neg (by omega), c7.g (by omega)]
        have q2 : (sta (sta v 0 (nI (56 + P 55)) (nI a)) 0 (nI (62 + P 55)) (nI b)).2 0 55 = nI (P 55) := by rw [sta_h _ _ (by omega), if_neg (by omega), q1]
        have q3 : ∀ w x, (sta w 0 (nI 55) x).2 0 55 = x := fun w x => by rw [sta_h _ _ (by omega), if_pos rfl]
        simp (disch := omega) only [gd_i, cl, nI_add, L56, L62, L1, vl_e, sta_1, y4', q1, q2, q3, c7.g]
        rw [bd_s, if_neg (show ¬ nI 1 = 0 by decide), stf_1, if_pos rfl]
        obtain ⟨P', hP'⟩ : ∃ P', P' = pu (pu (pu P (56 + P 55) a) (62 + P 55) b) 55 (P 55 + 1) := ⟨_, rfl⟩
        have hp : ∀ j, j < 55 → P' j = P j := fun j hj => by rw [hP', pu_n _ (by omega), pu_n _ (by omega), pu_n _ (by omega)]
        have hp55 : P' 55 = P 55 + 1 := by rw [hP', pu_s]
        have hp56 : ∀ i, i < 6 → P' (56 + i) = if i = P 55 then a else P (56 + i) := fun i hi => by
          rw [hP', pu_n _ (by omega), pu_n _ (by omega)]
          by_cases q : i = P 55
          · rw [if_pos q, q, pu_s]
          · rw [if_neg q, pu_n _ (by omega)]
        have hp62 : ∀ i, i < 6 → P' (62 + i) = if i = P 55 then b else P (62 + i) := fun i hi => by
          rw [hP', pu_n _ (by omega)]
          by_cases q : i = P 55
          · rw [if_pos q, q, pu_s]
          · rw [if_neg q, pu_n _ (by omega), pu_n _ (by omega)]
        obtain ⟨p1, p2, p3, p4, p5, p6, p7⟩ := c3
        refine ⟨nI (P 55 + 1), _, _, rfl, rfl, c, jn, P', ⟨c1, c2, ⟨by rw [hp _ (by omega)]; exact p1, by omega, fun f hf => ?_, fun f hf => ?_, fun f hf => ?_, fun f hf => ?_, fun f hf => ?_⟩, ⟨y1, y2, by rw [hp 46 (by omega)]; exact y3, by rw [hp55]; rfl, fun f hf => ?_, fun f hf => ?_, fun f hf => ?_, fun f hf => ?_, fun f hf => ?_⟩, c5, c6, ?_⟩, ?_⟩
        · rw [hp _ (by omega), hp _ (by omega), hp _ (by omega)]; exact p3 f hf
        · rw [hp _ (by omega), hp _ (by omega), hp _ (by omega), hp _ (by omega)]; exact p4 f hf
        · rw [hp _ (by omega), hp _ (by omega)]; exact p5 f hf
        · rw [hp _ (by omega)] at hf
          rw [hp _ (by omega), hp _ (by omega)]; exact p6 f hf
        · rw [hp55] at hf
          rw [hp56 f (by omega), hp62 f (by omega)]
          by_cases q : f = P 55
          · rw [if_pos q, if_pos q]; omega
          · rw [if_neg q, if_neg q]; exact p7 f (by omega)
        · rw [hp _ (by omega), hp _ (by omega), hp _ (by omega)]; exact y5 f hf
        · rw [hp _ (by omega), hp _ (by omega), hp _ (by omega), hp _ (by omega)]; exact y6 f hf
        · rw [hp _ (by omega), hp _ (by omega)]; exact y7 f hf
        · rw [hp _ (by omega)] at hf
          rw [hp _ (by omega), hp _ (by omega)]; exact y8 f hf
        · rw [hp55] at hf
          rw [hp56 f (by omega), hp62 f (by omega)]
          show (sta (sta u 11 (nI (P 55)) (nI a)) 12 (nI (P 55)) (nI b)).2 11 f = _ ∧ (sta (sta u 11 (nI (P 55)) (nI a)) 12 (nI (P 55)) (nI b)).2 12 f = _
          rw [sta_m _ _ _ (show 11 ≠ 12 by omega), sta_h _ _ (by omega), sta_h _ _ (by omega), sta_m _ _ _ (show 12 ≠ 11 by omega)]
          by_cases q : f = P 55
          · simp only [if_pos q, and_self]
          · simp only [if_neg q]; exact y9 f (by omega)
        · rw [hP']
          exact ((c7.pu (k := 56 + P 55) (x := a) (by omega)).pu (k := 62 + P 55) (x := b) (by omega)).pu (k := 55) (x := P 55 + 1) (by omega)
        · have R' : Rest c jn u v := R
          exact R'.fr (fun k hk => by rw [stf_1, if_neg (by omega)]; rfl) (fun k hk => by rw [stf_2, sta_m _ _ _ (by omega), sta_m _ _ _ (by omega)]) (fun k hk => rfl) (fun k hk => by rw [sta_m _ _ _ hk, sta_m _ _ _ hk, sta_m _ _ _ hk]) (fun i hi => by rw [sta_h _ _ (by omega), if_neg (by omega), sta_h _ _ (by omega), if_neg (by omega), sta_h _ _ (by omega), if_neg (by omega)])
    · simp only [e, e', k, k', bd_s, i10, i00]
      exact ⟨_, _, _, rfl, rfl, h⟩
  · simp only [e, e', bd_s, i00]
    exact ⟨_, _, _, rfl, rfl, h⟩
