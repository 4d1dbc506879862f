/-! PURE: one number of a page changed -/
def RC (c jn : Nat) (P : Nat → Nat) (u v : St) : Prop := RCourt c jn P u v ∧ Rest c jn u v
theorem RC.rr {c jn : Nat} {P : Nat → Nat} {u v : St} (h : RC c jn P u v) : RR u v := ⟨c, jn, P, h.1, h.2⟩
theorem PgOK.put {c jn : Nat} {P : Nat → Nat} {k x : Nat} (h : PgOK c jn P) (hc : c ≤ 4) (hj : jn ≤ 3) (hk : k < 46) (b0 : k < 8 → x ≤ 3) (b1 : 8 ≤ k → k < 16 → x ≤ 99) (b2 : 16 ≤ k → k < 24 → x ≤ 9) (b3 : 24 ≤ k → k < 28 → x ≤ 3) (b4 : 28 ≤ k → k < 32 → x ≤ 1) (b5 : 32 ≤ k → k < 36 → x ≤ 22) (b6 : 36 ≤ k → k < 43 → x ≤ 3) (b7 : 43 ≤ k → 1 ≤ x ∧ x ≤ 9) : PgOK c jn (pu P k x) := by
  obtain ⟨p1, p2, p3, p4, p5, p6, p7⟩ := h
  refine ⟨by rw [pu_n P (by omega)]; exact p1, by rw [pu_n P (by omega)]; exact p2, fun f hf => ?_, fun f hf => ?_, fun f hf => ?_, fun f hf => ?_, fun f hf => ?_⟩
  · have w := p3 f hf
    unfold pu
    refine ⟨?_, ?_, ?_⟩ <;> split <;> omega
  · have w := p4 f hf
    unfold pu
    refine ⟨?_, ?_, ?_, ?_⟩ <;> split <;> omega
  · have w := p5 f hf
    unfold pu
    refine ⟨?_, ?_, ?_⟩ <;> split <;> omega
  · rw [pu_n P (by omega)] at hf
    rw [pu_n P (by omega), pu_n P (by omega)]
    exact p6 f hf
  · rw [pu_n P (by omega)] at hf
    rw [pu_n P (by omega), pu_n P (by omega)]
    exact p7 f hf
theorem cellG {P : Nat → Nat} {u : St} {arr i k x A f kk : Nat} (h : u.2 A f = nI (P kk)) (hi : i < 2147483648) (q : (A = arr ∧ f = i) ↔ kk = k) : (sta u arr (nI i) (nI x)).2 A f = nI (pu P k x kk) := by
  unfold pu
  by_cases c : A = arr
  · subst c
    rw [sta_h _ _ hi]
    by_cases d : f = i
    · rw [if_pos d, if_pos (q.mp ⟨rfl, d⟩)]
    · rw [if_neg d, if_neg (fun z => d (q.mpr z).2)]
      exact h
  · rw [sta_m _ _ _ c, if_neg (fun z => c (q.mpr z).1)]
    exact h
theorem CtX.cell {c jn : Nat} {P : Nat → Nat} {u : St} {arr i k x : Nat} (h : CtX 0 c jn P u) (hc : c ≤ 4) (hj : jn ≤ 3) (hd : P 46 ≤ 4) (hh : P 55 ≤ 6) (hk : (arr ≤ 2 ∧ k = 8 * arr + i ∧ i < 8) ∨ (arr = 3 ∧ k = 24 + i ∧ i < 4) ∨ (arr = 4 ∧ k = 28 + i ∧ i < 4)) : CtX 0 c jn (pu P k x) (sta u arr (nI i) (nI x)) := by
  obtain ⟨h1, h2, h3, h4, h5, h6, h7, h8, h9⟩ := h
  refine ⟨h1, h2, by rw [pu_n P (by omega)]; exact h3, by rw [pu_n P (by omega)]; exact h4, fun f hf => ?_, fun f hf => ?_, fun f hf => ?_, fun f hf => ?_, fun f hf => ?_⟩
  · obtain ⟨w0, w1, w2⟩ := h5 f hf
    exact ⟨cellG w0 (by omega) (by omega), cellG w1 (by omega) (by omega), cellG w2 (by omega) (by omega)⟩
  · obtain ⟨w0, w1, w2, w3⟩ := h6 f hf
    refine ⟨cellG w0 (by omega) (by omega), cellG w1 (by omega) (by omega), ?_, ?_⟩
    · rw [sta_m _ _ _ (by omega), pu_n P (by omega)]; exact w2
    · rw [sta_m _ _ _ (by omega), pu_n P (by omega)]; exact w3
  · obtain ⟨w0, w1⟩ := h7 f hf
    exact ⟨cellG w0 (by omega) (by omega), cellG w1 (by omega) (by omega)⟩
  · rw [pu_n P (by omega)] at hf
    obtain ⟨w0, w1⟩ := h8 f hf
    exact ⟨cellG w0 (by omega) (by omega), cellG w1 (by omega) (by omega)⟩
  · rw [pu_n P (by omega)] at hf
    obtain ⟨w0, w1⟩ := h9 f hf
    exact ⟨cellG w0 (by omega) (by omega), cellG w1 (by omega) (by omega)⟩
theorem RC.cell {c jn : Nat} {P : Nat → Nat} {u v : St} {arr i k x : Nat} (h : RC c jn P u v) (hk : (arr ≤ 2 ∧ k = 8 * arr + i ∧ i < 8) ∨ (arr = 3 ∧ k = 24 + i ∧ i < 4) ∨ (arr = 4 ∧ k = 28 + i ∧ i < 4)) (b0 : k < 8 → x ≤ 3) (b1 : 8 ≤ k → k < 16 → x ≤ 99) (b2 : 16 ≤ k → k < 24 → x ≤ 9) (b3 : 24 ≤ k → k < 28 → x ≤ 3) (b4 : 28 ≤ k → k < 32 → x ≤ 1) : RC c jn (pu P k x) (sta u arr (nI i) (nI x)) (sta v 0 (nI k) (nI x)) := by
  obtain ⟨⟨c1, c2, c3, hX, c5, c6, c7⟩, R⟩ := h
  refine ⟨⟨c1, c2, c3.put c1 c2 (by omega) b0 b1 b2 b3 b4 (by omega) (by omega) (by omega), hX.cell c1 c2 c3.1 c3.2.1 hk, c5, c6, c7.pu (by omega)⟩, ?_⟩
  exact R.fr (fun k hk => rfl) (fun k hk => by rw [sta_m _ _ _ (by omega)]) (fun k hk => rfl) (fun k hk => by rw [sta_m _ _ _ hk]) (fun i hi => by rw [sta_h _ _ (by omega), if_neg (by omega)])
/-! appeal -/
theorem tm2 (a : Nat) : (2 : Int32) * nI a = nI (2 * a) := by rw [L2, pk_mul]
theorem tm3 (a : Nat) : (3 : Int32) * nI a = nI (3 * a) := by rw [L3, pk_mul]
theorem tm4 (a : Nat) : (4 : Int32) * nI a = nI (4 * a) := by rw [L4, pk_mul]
theorem tm8 (a : Nat) : (8 : Int32) * nI a = nI (8 * a) := by rw [L8, pk_mul]
theorem tm10 (a : Nat) : (10 : Int32) * nI a = nI (10 * a) := by rw [L10, pk_mul]
theorem tm40 (a : Nat) : (40 : Int32) * nI a = nI (40 * a) := by rw [L40, pk_mul]
theorem tm68 (a : Nat) : (68 : Int32) * nI a = nI (68 * a) := by rw [L68, pk_mul]
theorem mt40 (a : Nat) : nI a * (40 : Int32) = nI (a * 40) := by rw [L40, pk_mul]
theorem ta2 (a : Nat) : nI a + (2 : Int32) = nI (a + 2) := by rw [L2, nI_add]
theorem at8 (a : Nat) : (8 : Int32) + nI a = nI (8 + a) := by rw [L8, nI_add]
theorem at24 (a : Nat) : (24 : Int32) + nI a = nI (24 + a) := by rw [L24, nI_add]
theorem at28 (a : Nat) : (28 : Int32) + nI a = nI (28 + a) := by rw [L28, nI_add]
theorem at16 (a : Nat) : (16 : Int32) + nI a = nI (16 + a) := by rw [L16, nI_add]
theorem at40 (a : Nat) : (40 : Int32) + nI a = nI (40 + a) := by rw [L40, nI_add]
theorem at43 (a : Nat) : (43 : Int32) + nI a = nI (43 + a) := by rw [L43, nI_add]
theorem at62 (a : Nat) : (62 : Int32) + nI a = nI (62 + a) := by rw [L62, nI_add]
theorem n0f {a : Nat} (h : a ≠ 0) (ha : a < 2147483648) : ¬ nI a = 0 := by
  rw [L0]
  exact neI h ha (by omega)
theorem max_i {l : Nat} (hl : l < 1000) : (if (1 : Int32) < nI l then nI l else 1) = nI (max 1 l) := by
  rw [L1, iflt (by omega) (by omega)]
  by_cases h : 1 < l
  · rw [if_pos h, Nat.max_eq_right (by omega)]
  · rw [if_neg h, Nat.max_eq_left (by omega)]
theorem X_ap (F : Nat) (J : St → Option (Int32 × St)) (self : Int32 → St → Option (Int32 × St)) {a i l : Nat} (u : St) (ha : a < 4) (hi : i < 2 * a + 2) (hl : l < 1000) (h : u.2 1 i = nI l) : bX6_appeal_65 F (nI a) J self (nI i) u = self (nI (i + 1)) (sta u 1 (nI i) (nI (max 1 l))) := by
  unfold bX6_appeal_65
  rw [tm2, ta2, if_neg (nle (by omega) (by omega)), gd_i (by omega) (by omega), gd_i (by omega) (by omega), vl_e, cl (by omega), h, max_i hl, nI_s]
theorem X_apE (F : Nat) (J : St → Option (Int32 × St)) (self : Int32 → St → Option (Int32 × St)) (a : Nat) (u : St) (ha : a < 4) : bX6_appeal_65 F (nI a) J self (nI (2 * a + 1 + 1)) u = J u := by
  unfold bX6_appeal_65
  rw [tm2, ta2, if_pos (yle (by omega) (by omega))]
theorem M_ap (F : Nat) (J : St → Option (Int32 × St)) (self : Int32 → St → Option (Int32 × St)) {a i l : Nat} (u : St) (ha : a < 4) (hi : i < 2 * a + 2) (hl : l < 1000) (h : u.2 0 (8 + i) = nI l) : bX7_appeal_62 F (nI a) J self (nI i) u = self (nI (i + 1)) (sta u 0 (nI (8 + i)) (nI (max 1 l))) := by
  unfold bX7_appeal_62
  rw [tm2, ta2, if_neg (nle (by omega) (by omega)), at8, gd_i (by omega) (by omega), gd_i (by omega) (by omega), cl (by omega), h]
  simp only [jn_e, vl_e, nI_s]
  rw [gd_i (by omega) (by omega), gd_i (by omega) (by omega)]
  by_cases c : l = 0
  · subst c
    rw [if_pos (show nI 0 = 0 from rfl), show nI (0 + 1) = nI (max 1 0) from by decide +kernel]
  · rw [if_neg (n0f c (by omega)), show nI l + 0 = nI (max 1 l) from by rw [L0, nI_add, Nat.max_eq_right (by omega)]; rfl]
theorem M_apE (F : Nat) (J : St → Option (Int32 × St)) (self : Int32 → St → Option (Int32 × St)) (a : Nat) (u : St) (ha : a < 4) : bX7_appeal_62 F (nI a) J self (nI (2 * a + 1 + 1)) u = J u := by
  unfold bX7_appeal_62
  rw [tm2, ta2, if_pos (yle (by omega) (by omega))]
theorem LF3 : LF = 1997 + 1 + 1 + 1 := by decide
theorem step_appeal {u v : St} (h : RR u v) (x0 : Int32) : ∃ (r : Int32) (u' v' : St), pX6_appeal LF x0 u = some (r, u') ∧ pX7_appeal LF x0 v = some (r, v') ∧ RR u' v' := by
  obtain ⟨c, jn, P, ⟨c1, c2, c3, hX, c5, c6, c7⟩, R⟩ := id h
  have hRC : RC c jn P u v := ⟨⟨c1, c2, c3, hX, c5, c6, c7⟩, R⟩
  obtain ⟨y1, -, -, -, y5, y6, -⟩ := id hX
  rcases two_case x0 c1 y1 c5 with ⟨a, a1, rfl, e, e'⟩ | ⟨e, e'⟩
  · obtain ⟨w0, w1, w2, w3⟩ := c3.2.2.2.1 a a1
    obtain ⟨z0, z1, -, -⟩ := y6 a a1
    have z0' : u.2 3 a = nI (P (24 + a)) := z0
    have z1' : u.2 4 a = nI (P (28 + a)) := z1
    by_cases d0 : P (24 + a) = 0
    · refine ⟨-2, u, v, ?_, ?_, h⟩
      · unfold pX6_appeal
        rw [e, bd_s, i10, gd_i (by omega) (by omega), cl (by omega), z0', d0, if_pos (show nI 0 = 0 from rfl)]
      · unfold pX7_appeal
        rw [e', bd_s, i10, at24, gd_i (by omega) (by omega), cl (by omega), c7.g (by omega), d0, if_pos (show nI 0 = 0 from rfl)]
    · by_cases d1 : P (28 + a) = 0
      · obtain ⟨l0, l0e⟩ : ∃ l0, l0 = P (8 + 2 * a) := ⟨_, rfl⟩
        obtain ⟨l1, l1e⟩ : ∃ l1, l1 = P (8 + (2 * a + 1)) := ⟨_, rfl⟩
        have x0' : u.2 1 (2 * a) = nI l0 := l0e ▸ (y5 (2 * a) (by omega)).2.1
        have x1' : u.2 1 (2 * a + 1) = nI l1 := l1e ▸ (y5 (2 * a + 1) (by omega)).2.1
        have m0' : v.2 0 (8 + 2 * a) = nI l0 := l0e ▸ c7.g (by omega)
        have m1' : v.2 0 (8 + (2 * a + 1)) = nI l1 := l1e ▸ c7.g (by omega)
        have b0 : l0 ≤ 99 := l0e ▸ (c3.2.2.1 (2 * a) (by omega)).2.1
        have b1 : l1 ≤ 99 := l1e ▸ (c3.2.2.1 (2 * a + 1) (by omega)).2.1
        have mb0 : max 1 l0 ≤ 99 := by rw [Nat.max_def]; split <;> omega
        have mb1 : max 1 l1 ≤ 99 := by rw [Nat.max_def]; split <;> omega
        have r1 := hRC.cell (arr := 3) (i := a) (k := 24 + a) (x := 0) (by omega) (by omega) (by omega) (by omega) (by omega) (by omega)
        have r2 := r1.cell (arr := 4) (i := a) (k := 28 + a) (x := 1) (by omega) (by omega) (by omega) (by omega) (by omega) (by omega)
        have r3 := r2.cell (arr := 1) (i := 2 * a) (k := 8 + 2 * a) (x := max 1 l0) (by omega) (by omega) (by omega) (by omega) (by omega) (by omega)
        have r4 := r3.cell (arr := 1) (i := 2 * a + 1) (k := 8 + (2 * a + 1)) (x := max 1 l1) (by omega) (by omega) (by omega) (by omega) (by omega) (by omega)
        refine ⟨nI (max 1 l0 + max 1 l1), _, _, ?_, ?_, r4.rr⟩
        · unfold pX6_appeal
          rw [e, bd_s, i10, gd_i (by omega) (by omega), cl (by omega), z0', if_neg (n0f d0 (by omega)), gd_i (by omega) (by omega), z1', d1, if_pos (show nI 0 = 0 from rfl), gd_i (by omega) (by omega), vl_e, gd_i (by omega) (by omega), vl_e, vl_e, jn_e, tm2]
          generalize hq : lq1 (bX6_appeal_65 LF (nI a) (jX6_appeal_102 LF (nI a))) LF = g
          have hg : g = lq1 (bX6_appeal_65 LF (nI a) (jX6_appeal_102 LF (nI a))) (1997 + 1 + 1 + 1) := by rw [← hq]; exact congrArg _ LF3
          rw [hg, lq1_s, X_ap LF _ _ (i := 2 * a) (l := l0) _ (by omega) (by omega) (by omega) (by rw [sta_m _ _ _ (by omega), sta_m _ _ _ (by omega)]; exact x0'), lq1_s, X_ap LF _ _ (i := 2 * a + 1) (l := l1) _ (by omega) (by omega) (by omega) (by rw [sta_h _ _ (by omega), if_neg (by omega), sta_m _ _ _ (by omega), sta_m _ _ _ (by omega)]; exact x1'), lq1_s, X_apE LF _ _ a _ (by omega)]
          unfold jX6_appeal_102
          rw [tm2, nI_s, gd_i (by omega) (by omega), gd_i (by omega) (by omega), cl (by omega), cl (by omega), sta_h _ _ (by omega), if_neg (by omega), sta_h _ _ (by omega), if_pos rfl, sta_h _ _ (by omega), if_pos rfl, nI_add]
          rfl
        · unfold pX7_appeal
          rw [e', bd_s, i10, at24, gd_i (by omega) (by omega), cl (by omega), c7.g (by omega), if_neg (n0f d0 (by omega)), at28, gd_i (by omega) (by omega), cl (by omega), c7.g (by omega), d1, if_neg (show ¬ nI 0 = 1 from by decide), gd_i (by omega) (by omega), vl_e, gd_i (by omega) (by omega), vl_e, vl_e, jn_e, tm2]
          generalize hq : lq1 (bX7_appeal_62 LF (nI a) (jX7_appeal_106 LF (nI a))) LF = g
          have hg : g = lq1 (bX7_appeal_62 LF (nI a) (jX7_appeal_106 LF (nI a))) (1997 + 1 + 1 + 1) := by rw [← hq]; exact congrArg _ LF3
          rw [hg, lq1_s, M_ap LF _ _ (i := 2 * a) (l := l0) _ (by omega) (by omega) (by omega) (by rw [L1, sta_h _ _ (by omega), if_neg (by omega), sta_h _ _ (by omega), if_neg (by omega)]; exact m0'), lq1_s, M_ap LF _ _ (i := 2 * a + 1) (l := l1) _ (by omega) (by omega) (by omega) (by rw [sta_h _ _ (by omega), if_neg (by omega), sta_h _ _ (by omega), if_neg (by omega), sta_h _ _ (by omega), if_neg (by omega)]; exact m1'), lq1_s, M_apE LF _ _ a _ (by omega)]
          unfold jX7_appeal_106
          have hm := r4.1.2.2.2.2.2.2
          have hl := M_len LF (p := 0) (cc := a) _ (by omega) hm (by omega)
          rw [pu_n _ (by omega), pu_s, pu_s] at hl
          exact (congrArg (fun q => bd q (fun r u => some (r, u))) hl).trans rfl
      · refine ⟨-2, u, v, ?_, ?_, h⟩
        · unfold pX6_appeal
          rw [e, bd_s, i10, gd_i (by omega) (by omega), cl (by omega), z0', if_neg (n0f d0 (by omega)), gd_i (by omega) (by omega), z1', if_neg (n0f d1 (by omega))]
        · unfold pX7_appeal
          rw [e', bd_s, i10, at24, gd_i (by omega) (by omega), cl (by omega), c7.g (by omega), if_neg (n0f d0 (by omega)), at28, gd_i (by omega) (by omega), cl (by omega), c7.g (by omega), show P (28 + a) = 1 by omega, if_pos (show nI 1 = 1 from rfl)]
  · refine ⟨-1, u, v, ?_, ?_, h⟩
    · unfold pX6_appeal
      rw [e, bd_s, i00]
    · unfold pX7_appeal
      rw [e', bd_s, i00]
/-! rule -/
theorem step_rule {u v : St} (h : RR u v) (x0 : Int32) : ∃ (r : Int32) (u' v' : St), pX6_rule LF x0 u = some (r, u') ∧ pX7_rule LF x0 v = some (r, v') ∧ RR u' v' := by
  obtain ⟨c, jn, P, ⟨c1, c2, c3, hX, c5, c6, c7⟩, R⟩ := id h
  obtain ⟨y1, y2, y3, y4, y5, y6, -⟩ := id hX
  have hLF : 80 ≤ LF := by decide
  have y1' : u.1 0 = nI c := y1
  have y2' : u.1 1 = nI jn := y2
  have y3' : u.1 2 = nI (P 46) := y3
  have y4' : u.1 3 = nI (P 55) := y4
  have kb : ∀ k, k < 1000 → pX6_bitsOf LF 3 (nI c) (nI k) u = some (bI (fun i => decide (P (24 + i) = k)) c, u) := fun k hk => X_bits LF hLF u (fun i => P (24 + i)) (show c ≤ 4 by omega) (by omega) (show 4 < 1000 by omega) hk (fun i hi => ⟨by have := (c3.2.2.2.1 i hi).1; show P (24 + i) < 1000; omega, (y6 i hi).1⟩)
  have km : ∀ k, k < 1000 → pX7_wonOn LF 0 (nI k) v = some (bI (fun i => decide (P (24 + i) = k)) c, v) := fun k hk => M_won LF hLF v (p := 0) (by omega) c1 c5 c7 hk (fun i hi => by have := (c3.2.2.2.1 i hi).1; omega)
  have ks : pX0_sumOf LF 0 1 u = some (nI (sm (fun i => P (8 + i)) (2 * c)), u) := X_sum LF hLF u (fun i => P (8 + i)) (show 2 * c ≤ 8 by omega) c1 (show 8 < 1000 by omega) y1' (fun i hi => (y5 i hi).2.1)
  have kl : pX7_lengthsOn LF 0 v = some (nI (sm (fun i => P (8 + i)) (2 * c)), v) := M_lens LF hLF v (p := 0) (by omega) c1 c5 c7
  have z46 : v.2 0 46 = nI (P 46) := c7.g (by omega)
  have z55 : v.2 0 55 = nI (P 55) := c7.g (by omega)
  have t46 : Int32.toNatClampNeg 46 = 46 := by decide +kernel
  have t55 : Int32.toNatClampNeg 55 = 55 := by decide +kernel
  have g46 : inb 46 408 = true := by decide +kernel
  have g55 : inb 55 408 = true := by decide +kernel
  unfold pX6_rule pX7_rule
  by_cases q0 : x0 = 0
  · rw [if_pos q0, if_pos q0, y1', c5]; exact ⟨_, _, _, rfl, rfl, h⟩
  by_cases q1 : x0 = 1
  · rw [if_neg q0, if_neg q0, if_pos q1, if_pos q1, y2', c6]; exact ⟨_, _, _, rfl, rfl, h⟩
  by_cases q2 : x0 = 2
  · rw [if_neg q0, if_neg q0, if_neg q1, if_neg q1, if_pos q2, if_pos q2, y3', g46, gd_true, t46, z46]; exact ⟨_, _, _, rfl, rfl, h⟩
  by_cases q3 : x0 = 3
  · rw [if_neg q0, if_neg q0, if_neg q1, if_neg q1, if_neg q2, if_neg q2, if_pos q3, if_pos q3, y4', g55, gd_true, t55, z55]; exact ⟨_, _, _, rfl, rfl, h⟩
  rw [if_neg q0, if_neg q0, if_neg q1, if_neg q1, if_neg q2, if_neg q2, if_neg q3, if_neg q3]
  by_cases q4 : x0 = 4
  · rw [if_pos q4, if_pos q4, y1', show (1 : Int32) = nI 1 from rfl, kb 1 (by omega), bd_s, q4, show (4 : Int32) - 3 = nI 1 from by decide +kernel, km 1 (by omega), bd_s]; exact ⟨_, _, _, rfl, rfl, h⟩
  by_cases q5 : x0 = 5
  · rw [if_neg q4, if_neg q4, if_pos q5, if_pos q5, y1', show (2 : Int32) = nI 2 from rfl, kb 2 (by omega), bd_s, q5, show (5 : Int32) - 3 = nI 2 from by decide +kernel, km 2 (by omega), bd_s]; exact ⟨_, _, _, rfl, rfl, h⟩
  by_cases q6 : x0 = 6
  · rw [if_neg q4, if_neg q4, if_neg q5, if_neg q5, if_pos q6, if_pos q6, y1', q6, show (6 : Int32) - 3 = nI 3 from by decide +kernel, show (3 : Int32) = nI 3 from rfl, kb 3 (by omega), bd_s, km 3 (by omega), bd_s]; exact ⟨_, _, _, rfl, rfl, h⟩
  by_cases q7 : x0 = 7
  · rw [if_neg q4, if_neg q4, if_neg q5, if_neg q5, if_neg q6, if_neg q6, if_pos q7, if_pos q7, ks, bd_s, kl, bd_s]; exact ⟨_, _, _, rfl, rfl, h⟩
  rw [if_neg q4, if_neg q4, if_neg q5, if_neg q5, if_neg q6, if_neg q6, if_neg q7, if_neg q7]
  exact ⟨_, _, _, rfl, rfl, h⟩
