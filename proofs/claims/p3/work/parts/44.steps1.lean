/-! PURE: the first steps -/
theorem i10 {α : Type} (a b : α) : (if (1 : Int32) = 0 then a else b) = b := if_neg (by decide)
theorem i00 {α : Type} (a b : α) : (if (0 : Int32) = 0 then a else b) = a := if_pos rfl
theorem gd_i {α : Type} {n N : Nat} (h : n < N) (hN : N < 2147483648) (o : Option α) : gd (inb (nI n) N) o = o := by rw [inb_nI h hN, gd_true]
theorem subL {c : Nat} (h : c < 2147483648) : (nI c - 1).toInt = (c : Int) - 1 := by
  rw [Int32.toInt_sub, tI h, show (1 : Int32).toInt = 1 from by decide]
  exact fb_bmod0 (by omega) (by omega)
/-- both sides' ranges say the same -/
theorem rng (x : Int32) {a0 b0 : Int32} {a1 b1 : Int64} (lo hi : Int) (ha : a0.toInt = lo) (ha' : a1.toInt = lo) (hb : b0.toInt = hi) (hb' : b1.toInt = hi) (h0 : 0 ≤ lo) (h1 : hi < 2147483647) :
    (∃ n : Nat, lo ≤ (n : Int) ∧ (n : Int) ≤ hi ∧ x = nI n ∧ (∀ F u, pX6_isIn F (Int32.toInt64 x) a0 b0 u = some (1, u)) ∧ ∀ F v, pX7_in F (Int32.toInt64 x) a1 b1 v = some (1, v)) ∨
    (¬ (lo ≤ x.toInt ∧ x.toInt ≤ hi) ∧ (∀ F u, pX6_isIn F (Int32.toInt64 x) a0 b0 u = some (0, u)) ∧ ∀ F v, pX7_in F (Int32.toInt64 x) a1 b1 v = some (0, v)) := by
  by_cases h : lo ≤ x.toInt ∧ x.toInt ≤ hi
  · refine Or.inl ⟨x.toInt.toNat, by omega, by omega, ?_, fun F u => ?_, fun F v => ?_⟩
    · apply Int32.toInt_inj.mp
      rw [nI_toInt (by omega)]
      omega
    · rw [X_isIn, b01_t (by rw [tI64, ha, hb]; exact h)]
    · rw [M_in, b01_t (by rw [tI64, ha', hb']; exact h)]
  · refine Or.inr ⟨h, fun F u => ?_, fun F v => ?_⟩
    · rw [X_isIn, b01_f (by rw [tI64, ha, hb]; exact h)]
    · rw [M_in, b01_f (by rw [tI64, ha', hb']; exact h)]
theorem rng_ne {x : Int32} {hi : Int} (h : ¬ (0 ≤ x.toInt ∧ x.toInt ≤ hi)) {k : Nat} (hk : (k : Int) ≤ hi) (hk2 : k < 1000) : ¬ x = nI k := fun q => h (by
  rw [q, tI (by omega)]
  omega)
theorem PgM.g {P : Nat → Nat} {v : St} (h : PgM 0 P v) {k : Nat} (hk : k < 68) : v.2 0 k = nI (P k) := by
  have := h k hk
  rwa [show 68 * 0 + k = k by omega] at this
theorem off_e {n : Nat} (hn : n < 1000) (v : St) : (if nI n = nI 0 then some ((-4 : Int32), v) else some (nI n - nI 1, v)) = some (off n, v) := by
  unfold off
  rw [ifeq (by omega) (by omega)]
  by_cases h : n = 0
  · rw [if_pos h, if_pos h]
  · rw [if_neg h, if_neg h, subI (by omega)]
/-- a case, a judge, a side: on both sides, or on none -/
theorem z01_1 : z01 (1 : Int32) = true := by decide
theorem z01_0 : z01 (0 : Int32) = true := by decide
theorem two_case (x : Int32) {c : Nat} {u v : St} (hc : c ≤ 4) (h1 : u.1 0 = nI c) (h2 : v.1 0 = nI c) :
    (∃ n : Nat, n < c ∧ x = nI n ∧ (∀ F, pX0_hasCase F 0 (Int32.toInt64 x) u = some (1, u)) ∧ ∀ F, pX7_isCase F x v = some (1, v)) ∨ ((∀ F, pX0_hasCase F 0 (Int32.toInt64 x) u = some (0, u)) ∧ ∀ F, pX7_isCase F x v = some (0, v)) := by
  have hb : (nI c - 1).toInt = (c : Int) - 1 := subL (by omega)
  rcases rng x (a0 := 0) (b0 := nI c - 1) (a1 := 0) (b1 := Int32.toInt64 (nI c - 1)) 0 ((c : Int) - 1) rfl rfl hb (by rw [tI64]; exact hb) (by omega) (by omega) with ⟨n, b1, b2, b3, e, e'⟩ | ⟨-, e, e'⟩
  · refine Or.inl ⟨n, by omega, b3, fun F => ?_, fun F => ?_⟩
    · unfold pX0_hasCase
      rw [show 4 * 0 + 0 = 0 from rfl, h1, e, bd_s, z01_1, gd_true]
    · unfold pX7_isCase
      rw [h2, e', bd_s, z01_1, gd_true]
  · refine Or.inr ⟨fun F => ?_, fun F => ?_⟩
    · unfold pX0_hasCase
      rw [show 4 * 0 + 0 = 0 from rfl, h1, e, bd_s, z01_0, gd_true]
    · unfold pX7_isCase
      rw [h2, e', bd_s, z01_0, gd_true]
theorem two_judge (x : Int32) {c : Nat} {u v : St} (hc : c ≤ 3) (h1 : u.1 1 = nI c) (h2 : v.1 1 = nI c) :
    (∃ n : Nat, n < c ∧ x = nI n ∧ (∀ F, pX0_hasJudge F 0 x u = some (1, u)) ∧ ∀ F, pX7_isJudge F x v = some (1, v)) ∨ ((∀ F, pX0_hasJudge F 0 x u = some (0, u)) ∧ ∀ F, pX7_isJudge F x v = some (0, v)) := by
  have hb : (nI c - 1).toInt = (c : Int) - 1 := subL (by omega)
  rcases rng x (a0 := 0) (b0 := nI c - 1) (a1 := 0) (b1 := Int32.toInt64 (nI c - 1)) 0 ((c : Int) - 1) rfl rfl hb (by rw [tI64]; exact hb) (by omega) (by omega) with ⟨n, b1, b2, b3, e, e'⟩ | ⟨-, e, e'⟩
  · refine Or.inl ⟨n, by omega, b3, fun F => ?_, fun F => ?_⟩
    · unfold pX0_hasJudge
      rw [show 4 * 0 + 1 = 1 from rfl, h1, e, bd_s, z01_1, gd_true]
    · unfold pX7_isJudge
      rw [h2, e', bd_s, z01_1, gd_true]
  · refine Or.inr ⟨fun F => ?_, fun F => ?_⟩
    · unfold pX0_hasJudge
      rw [show 4 * 0 + 1 = 1 from rfl, h1, e, bd_s, z01_0, gd_true]
    · unfold pX7_isJudge
      rw [h2, e', bd_s, z01_0, gd_true]
theorem two_side (x : Int32) :
    (∃ n : Nat, n < 2 ∧ x = nI n ∧ (∀ F u, pX6_isSide F x u = some (1, u)) ∧ ∀ F v, pX7_isSide F x v = some (1, v)) ∨ ((∀ F u, pX6_isSide F x u = some (0, u)) ∧ ∀ F v, pX7_isSide F x v = some (0, v)) := by
  rcases rng x (a0 := 0) (b0 := 1) (a1 := 0) (b1 := 1) 0 1 rfl rfl rfl rfl (by omega) (by omega) with ⟨n, b1, b2, b3, e, e'⟩ | ⟨-, e, e'⟩
  · refine Or.inl ⟨n, by omega, b3, fun F u => ?_, fun F v => ?_⟩
    · unfold pX6_isSide
      rw [e, bd_s, z01_1, gd_true]
    · unfold pX7_isSide
      rw [e', bd_s, z01_1, gd_true]
  · refine Or.inr ⟨fun F u => ?_, fun F v => ?_⟩
    · unfold pX6_isSide
      rw [e, bd_s, z01_0, gd_true]
    · unfold pX7_isSide
      rw [e', bd_s, z01_0, gd_true]
theorem step_fault {u v : St} (h : RR u v) : ∃ (r r2 : Int32) (u' v' : St), pX6_fault LF u = some (r, u') ∧ pX7_fault LF v = some (r2, v') ∧ RR u' v' := ⟨u.1 18, v.1 8, u, v, rfl, rfl, h⟩
theorem same_fault {u v : St} (h : RR u v) (hw : u.1 18 = v.1 8) : ∃ (r : Int32) (u' v' : St), pX6_fault LF u = some (r, u') ∧ pX7_fault LF v = some (r, v') ∧ RR u' v' := ⟨u.1 18, u, v, rfl, by rw [hw]; rfl, h⟩
theorem step_torn {u v : St} (h : RR u v) : ∃ (r : Int32) (u' v' : St), pX6_torn LF u = some (r, u') ∧ pX7_torn LF v = some (r, v') ∧ RR u' v' := by
  obtain ⟨c, jn, P, hC, i0, i1, hs, ht, hw, htn, hsh, hc⟩ := id h
  exact ⟨u.1 16, u, v, rfl, by rw [htn]; rfl, h⟩
theorem step_feed {u v : St} (h : RR u v) (x0 : Int32) : ∃ (r : Int32) (u' v' : St), pX6_feed LF x0 u = some (r, u') ∧ pX7_feed LF x0 v = some (r, v') ∧ RR u' v' := by
  obtain ⟨c, jn, P, hC, i0, i1, hs, ⟨n, n1, n2, n3, n4⟩, hw, htn, hsh, hc⟩ := id h
  unfold pX6_feed pX7_feed pX2_add
  rcases rng x0 (a0 := 0) (b0 := 127) (a1 := 0) (b1 := 127) 0 127 rfl rfl rfl rfl (by omega) (by omega) with ⟨b, b1, b2, rfl, e, e'⟩ | ⟨-, e, e'⟩
  · rw [e, e', bd_s, bd_s, i10, i10, n2, n3, L160, iflt (by omega) (by omega), ifeq (by omega) (by omega)]
    by_cases hn : n = 160
    · rw [if_neg (by omega), if_pos hn, bd_s, i00]
      exact ⟨_, _, _, rfl, rfl, h⟩
    · rw [if_pos (by omega), if_neg hn, gd_i (by omega) (by omega), gd_i (by omega) (by omega)]
      simp only [vl_e, bd_s, i10, sta_1, n2, n3, L1, nI_add]
      refine ⟨nI (n + 1), _, _, rfl, rfl, c, jn, P, hC, i0, i1, hs, ⟨n + 1, by omega, rfl, rfl, fun i hi => ?_⟩, hw, htn, hsh, hc⟩
      by_cases hq : i = n
      · subst hq
        exact ⟨b, by omega, by rw [stf_2, sta_2, if_pos rfl, cl (by omega), upd_s], by rw [stf_2, sta_2, if_pos rfl, cl (by omega), upd_s]⟩
      · obtain ⟨y, y1, y2, y3⟩ := n4 i (by omega)
        exact ⟨y, y1, by rw [stf_2, sta_2, if_pos rfl, cl (by omega), upd_n hq]; exact y2, by rw [stf_2, sta_2, if_pos rfl, cl (by omega), upd_n hq]; exact y3⟩
  · rw [e, e', bd_s, bd_s, i00, i00]
    exact ⟨_, _, _, rfl, rfl, h⟩
theorem step_end {u v : St} (h : RR u v) (x0 : Int32) : ∃ (r : Int32) (u' v' : St), pX6_end LF x0 u = some (r, u') ∧ pX7_end LF x0 v = some (r, v') ∧ RR u' v' := by
  obtain ⟨c, jn, P, hC, i0, i1, hs, ⟨n, n1, n2, n3, n4⟩, hw, htn, hsh, hc⟩ := id h
  unfold pX6_end pX7_end
  have hb : (nI n).toInt = (n : Int) := tI (by omega)
  rcases rng x0 (a0 := 0) (b0 := nI n) (a1 := 0) (b1 := Int32.toInt64 (nI n)) 0 n rfl rfl hb (by rw [tI64]; exact hb) (by omega) (by omega) with ⟨b, b1, b2, rfl, e, e'⟩ | ⟨-, e, e'⟩
  · rw [n2, n3, e, e', bd_s, bd_s, i10, i10]
    simp only [vl_e, n2, n3]
    exact ⟨nI n, _, _, rfl, rfl, c, jn, P, hC, i0, i1, hs, ⟨b, by omega, rfl, rfl, fun i hi => n4 i (by omega)⟩, hw, htn, hsh, hc⟩
  · rw [n2, n3, e, e', bd_s, bd_s, i00, i00]
    exact ⟨_, _, _, rfl, rfl, h⟩
theorem step_judge {u v : St} (h : RR u v) (x0 x1 : Int32) : ∃ (r : Int32) (u' v' : St), pX6_judge LF x0 x1 u = some (r, u') ∧ pX7_judge LF x0 x1 v = some (r, v') ∧ RR u' v' := by
  obtain ⟨c, jn, P, ⟨c1, c2, c3, ⟨y1, y2, y3, y4, y5, y6, y7, y8, y9⟩, c5, c6, c7⟩, i0, i1, hs, ht, hw, htn, hsh, hc⟩ := id h
  unfold pX6_judge pX7_judge
  rcases two_judge x0 c2 y2 c6 with ⟨a, a1, rfl, e, e'⟩ | ⟨e, e'⟩
  · rw [e, e', bd_s, bd_s, i10, i10]
    rcases rng x1 (a0 := 0) (b0 := 1) (a1 := 0) (b1 := 1) 0 1 rfl rfl rfl rfl (by omega) (by omega) with ⟨b, b1, b2, rfl, k, k'⟩ | ⟨-, k, k'⟩
    · rw [k, k', bd_s, bd_s, i10, i10]
      obtain ⟨z1, z2⟩ := y7 a a1
      simp (disch := omega) only [L0, L3, L40, nI_add, pk_mul, gd_i, cl, eqI]
      have hb : b = 0 ∨ b = 1 := by omega
      rcases hb with rfl | rfl
      · exact ⟨nI (P (40 + a)), u, v, by rw [if_pos rfl]; exact congrArg (fun q => some (q, u)) z1, congrArg (fun q => some (q, v)) (c7.g (k := 40 + 3 * 0 + a) (by omega)), h⟩
      · exact ⟨nI (P (43 + a)), u, v, by rw [if_neg (by omega)]; exact congrArg (fun q => some (q, u)) z2, congrArg (fun q => some (q, v)) (c7.g (k := 40 + 3 * 1 + a) (by omega)), h⟩
    · rw [k, k', bd_s, bd_s, i00, i00]
      exact ⟨_, _, _, rfl, rfl, h⟩
  · rw [e, e', bd_s, bd_s, i00, i00]
    exact ⟨_, _, _, rfl, rfl, h⟩
theorem step_flame {u v : St} (h : RR u v) (x0 x1 x2 : Int32) : ∃ (r : Int32) (u' v' : St), pX6_flame LF x0 x1 x2 u = some (r, u') ∧ pX7_flame LF x0 x1 x2 v = some (r, v') ∧ RR u' v' := by
  obtain ⟨c, jn, P, ⟨c1, c2, c3, ⟨y1, y2, y3, y4, y5, y6, y7, y8, y9⟩, c5, c6, c7⟩, i0, i1, hs, ht, hw, htn, hsh, hc⟩ := id h
  unfold pX6_flame pX6_isFlame pX7_flame
  rcases two_case x0 c1 y1 c5 with ⟨a, a1, rfl, e, e'⟩ | ⟨e, e'⟩
  · rw [e, e', bd_s, bd_s, i10, i10]
    rcases two_side x1 with ⟨b, b1, rfl, k, k'⟩ | ⟨k, k'⟩
    · simp only [k, k', bd_s, i10]
      obtain ⟨z1, z2, z3⟩ := y5 (2 * a + b) (by omega)
      obtain ⟨w1, w2, w3⟩ := c3.2.2.1 (2 * a + b) (by omega)
      simp only [vl_e, L2, L8, pk_mul, nI_add]
      rcases rng x2 (a0 := 0) (b0 := 3) (a1 := 0) (b1 := 3) 0 3 rfl rfl rfl rfl (by omega) (by omega) with ⟨d, d1, d2, rfl, -, m'⟩ | ⟨m, -, m'⟩
      · rw [m', bd_s, i10]
        simp (disch := omega) only [pk_mul, nI_add, gd_i, cl, L0, L1, L2, L3, eqI]
        have hd : d = 0 ∨ d = 1 ∨ d = 2 ∨ d = 3 := by omega
        rcases hd with rfl | rfl | rfl | rfl
        · refine ⟨nI (P (2 * a + b)), u, v, ?_, ?_, h⟩
          · rw [if_pos rfl]; exact congrArg (fun q => some (q, u)) z1
          · rw [if_neg (by omega), c7.g (by omega), show 8 * 0 + 2 * a + b = 2 * a + b by omega]
        · refine ⟨nI (P (8 + (2 * a + b))), u, v, ?_, ?_, h⟩
          · rw [if_neg (by omega), if_pos rfl]; exact congrArg (fun q => some (q, u)) z2
          · rw [if_neg (by omega), c7.g (by omega), show 8 * 1 + 2 * a + b = 8 + (2 * a + b) by omega]
        · refine ⟨nI (P (16 + (2 * a + b))), u, v, ?_, ?_, h⟩
          · rw [if_neg (by omega), if_neg (by omega), if_pos rfl]; exact congrArg (fun q => some (q, u)) z3
          · rw [if_neg (by omega), c7.g (by omega), show 8 * 2 + 2 * a + b = 16 + (2 * a + b) by omega]
        · have z1' : u.2 0 (2 * a + b) = nI (P (2 * a + b)) := z1
          refine ⟨nI (bn (P (2 * a + b))), u, v, ?_, ?_, h⟩
          · rw [if_neg (by omega), if_neg (by omega), if_neg (by omega), if_pos rfl, z1', gd_i (by omega) (by omega), cl (by omega), tab_bn w1]
          · rw [if_pos rfl, c7.g (by omega), gd_i (by omega) (by omega), cl (by omega), M_bn hc.2.2.1 w1]
      · rw [m', bd_s, i00, L0, L1, L3, if_neg (rng_ne m (by omega) (by omega)), if_neg (rng_ne m (by omega) (by omega)), if_neg (rng_ne m (by omega) (by omega)), if_neg (rng_ne m (by omega) (by omega))]
        exact ⟨_, _, _, rfl, rfl, h⟩
    · simp only [k, k', bd_s, i00]
      exact ⟨_, _, _, rfl, rfl, h⟩
  · simp only [e, e', bd_s, i00]
    exact ⟨_, _, _, rfl, rfl, h⟩
theorem step_suit {u v : St} (h : RR u v) (x0 x1 : Int32) : ∃ (r : Int32) (u' v' : St), pX6_suit LF x0 x1 u = some (r, u') ∧ pX7_suit LF x0 x1 v = some (r, v') ∧ RR u' v' := by
  obtain ⟨c, jn, P, ⟨c1, c2, c3, ⟨y1, y2, y3, y4, y5, y6, y7, y8, y9⟩, c5, c6, c7⟩, i0, i1, hs, ht, hw, htn, hsh, hc⟩ := id h
  unfold pX6_suit pX7_suit
  rcases two_case x0 c1 y1 c5 with ⟨a, a1, rfl, e, e'⟩ | ⟨e, e'⟩
  · rw [e, e', bd_s, bd_s, i10, i10]
    obtain ⟨z1, z2, z3, z4⟩ := y6 a a1
    obtain ⟨w1, w2, w3, w4⟩ := c3.2.2.2.1 a a1
    rcases rng x1 (a0 := 0) (b0 := 3) (a1 := 0) (b1 := 3) 0 3 rfl rfl rfl rfl (by omega) (by omega) with ⟨d, d1, d2, rfl, -, m'⟩ | ⟨m, -, m'⟩
    · rw [m', bd_s, i10]
      simp (disch := omega) only [vl_e, L0, L1, L2, L3, L4, L24, pk_mul, nI_add, gd_i, cl, eqI, leI]
      rw [c7.g (by omega)]
      have hd : d = 0 ∨ d = 1 ∨ d = 2 ∨ d = 3 := by omega
      rcases hd with rfl | rfl | rfl | rfl
      · refine ⟨nI (P (24 + a)), u, v, ?_, ?_, h⟩
        · rw [if_pos rfl]; exact congrArg (fun q => some (q, u)) z1
        · rw [if_neg (by omega)]
      · refine ⟨nI (P (28 + a)), u, v, ?_, ?_, h⟩
        · rw [if_neg (by omega), if_pos rfl]; exact congrArg (fun q => some (q, u)) z2
        · rw [if_neg (by omega)]
      · refine ⟨off (P (32 + a)), u, v, ?_, ?_, h⟩
        · rw [if_neg (by omega), if_neg (by omega), if_pos rfl]; exact congrArg (fun q => some (q, u)) z3
        · rw [if_pos (by omega), show 24 + 4 * 2 + a = 32 + a by omega]
          have := off_e (n := P (32 + a)) (by omega) v
          rw [L4] at this
          exact this
      · refine ⟨off (P (36 + a)), u, v, ?_, ?_, h⟩
        · rw [if_neg (by omega), if_neg (by omega), if_neg (by omega), if_pos rfl]; exact congrArg (fun q => some (q, u)) z4
        · rw [if_pos (by omega), show 24 + 4 * 3 + a = 36 + a by omega]
          have := off_e (n := P (36 + a)) (by omega) v
          rw [L4] at this
          exact this
    · rw [m', bd_s, i00, L0, L1, L2, L3, if_neg (rng_ne m (by omega) (by omega)), if_neg (rng_ne m (by omega) (by omega)), if_neg (rng_ne m (by omega) (by omega)), if_neg (rng_ne m (by omega) (by omega))]
      exact ⟨_, _, _, rfl, rfl, h⟩
  · rw [e, e', bd_s, bd_s, i00, i00]
    exact ⟨_, _, _, rfl, rfl, h⟩
theorem step_draught {u v : St} (h : RR u v) (x0 x1 : Int32) : ∃ (r : Int32) (u' v' : St), pX6_draught LF x0 x1 u = some (r, u') ∧ pX7_draught LF x0 x1 v = some (r, v') ∧ RR u' v' := by
  obtain ⟨c, jn, P, ⟨c1, c2, c3, ⟨y1, y2, y3, y4, y5, y6, y7, y8, y9⟩, c5, c6, c7⟩, i0, i1, hs, ht, hw, htn, hsh, hc⟩ := id h
  have h46 : P 46 ≤ 4 := c3.1
  have y3' : u.1 2 = nI (P 46) := y3
  unfold pX6_draught pX7_draught
  rw [L46, gd_i (by omega) (by omega), cl (by omega), c7.g (by omega), y3']
  have hb : (nI (P 46) - 1).toInt = (P 46 : Int) - 1 := subL (by omega)
  rcases rng x0 (a0 := 0) (b0 := nI (P 46) - 1) (a1 := 0) (b1 := Int32.toInt64 (nI (P 46) - 1)) 0 ((P 46 : Int) - 1) rfl rfl hb (by rw [tI64]; exact hb) (by omega) (by omega) with ⟨a, a1, a2, rfl, e, e'⟩ | ⟨-, e, e'⟩
  · rw [e, e', bd_s, bd_s, i10, i10]
    rcases rng x1 (a0 := 0) (b0 := 1) (a1 := 0) (b1 := 1) 0 1 rfl rfl rfl rfl (by omega) (by omega) with ⟨b, b1, b2, rfl, k, k'⟩ | ⟨-, k, k'⟩
    · rw [k, k', bd_s, bd_s, i10, i10]
      obtain ⟨z1, z2⟩ := y8 a (by omega)
      simp (disch := omega) only [L0, L4, L47, nI_add, pk_mul, gd_i, cl, eqI]
      rw [c7.g (by omega)]
      have hb : b = 0 ∨ b = 1 := by omega
      rcases hb with rfl | rfl
      · exact ⟨nI (P (47 + a)), u, v, by rw [if_pos rfl]; exact congrArg (fun q => some (q, u)) z1, rfl, h⟩
      · exact ⟨nI (P (51 + a)), u, v, by rw [if_neg (by omega)]; exact congrArg (fun q => some (q, u)) z2, rfl, h⟩
    · rw [k, k', bd_s, bd_s, i00, i00]
      exact ⟨_, _, _, rfl, rfl, h⟩
  · rw [e, e', bd_s, bd_s, i00, i00]
    exact ⟨_, _, _, rfl, rfl, h⟩
