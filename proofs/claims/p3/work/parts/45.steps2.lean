/-! PURE: what a change of the page leaves -/
def Rest (c jn : Nat) (u v : St) : Prop := RImg 0 c jn u v ∧ RImg 1 c jn u v ∧ RSeen c jn u v ∧ RTape u v ∧ FK (u.1 18) (v.1 8) ∧ u.1 16 = v.1 22 ∧ (∀ k, k < 4 → RSheet k u v) ∧ RConst v
theorem CtX.fr {j c jn : Nat} {P : Nat → Nat} {u u' : St} (hj : 1 ≤ j) (h : CtX j c jn P u) (e1 : ∀ k, 4 ≤ k → u'.1 k = u.1 k) (e2 : ∀ k, 13 ≤ k → u'.2 k = u.2 k) : CtX j c jn P u' := by
  obtain ⟨h1, h2, h3, h4, h5, h6, h7, h8, h9⟩ := h
  refine ⟨by rw [e1 _ (by omega)]; exact h1, by rw [e1 _ (by omega)]; exact h2, by rw [e1 _ (by omega)]; exact h3, by rw [e1 _ (by omega)]; exact h4, ?_, ?_, ?_, ?_, ?_⟩
  · intro f hf; rw [e2 _ (by omega), e2 _ (by omega), e2 _ (by omega)]; exact h5 f hf
  · intro f hf; rw [e2 _ (by omega), e2 _ (by omega), e2 _ (by omega), e2 _ (by omega)]; exact h6 f hf
  · intro f hf; rw [e2 _ (by omega), e2 _ (by omega)]; exact h7 f hf
  · intro f hf; rw [e2 _ (by omega), e2 _ (by omega)]; exact h8 f hf
  · intro f hf; rw [e2 _ (by omega), e2 _ (by omega)]; exact h9 f hf
theorem Rest.fr {c jn : Nat} {u v u' v' : St} (h : Rest c jn u v) (e1 : ∀ k, 4 ≤ k → u'.1 k = u.1 k) (e2 : ∀ k, 13 ≤ k → u'.2 k = u.2 k) (f1 : ∀ k, 2 ≤ k → v'.1 k = v.1 k) (f2 : ∀ k, k ≠ 0 → v'.2 k = v.2 k) (f3 : ∀ i, 68 ≤ i → v'.2 0 i = v.2 0 i) : Rest c jn u' v' := by
  obtain ⟨i0, i1, hs, ht, hw, htn, hsh, hc⟩ := h
  have img : ∀ k, k < 2 → RImg k c jn u v → RImg k c jn u' v' := fun k hk q => by
    rcases q with ⟨a, b⟩ | ⟨a, b, Q, q1, q2, q3⟩
    · exact Or.inl ⟨by rw [e2 66 (by omega)]; exact a, by rw [f2 12 (by omega)]; exact b⟩
    · exact Or.inr ⟨by rw [e2 66 (by omega)]; exact a, by rw [f2 12 (by omega)]; exact b, Q, q1, q2.fr (by omega) e1 e2, fun i hi => by rw [f3 _ (by omega)]; exact q3 i hi⟩
  refine ⟨img 0 (by omega) i0, img 1 (by omega) i1, ?_, ?_, ?_, ?_, ?_, ?_⟩
  · obtain ⟨n, a1, a2, a3, a4⟩ := hs
    refine ⟨n, a1, (e1 29 (by omega)).trans a2, (f1 21 (by omega)).trans a3, fun i hi => ?_⟩
    rw [e2 60 (by omega), e2 61 (by omega), e2 62 (by omega), f2 7 (by omega)]
    exact a4 i hi
  · obtain ⟨n, a1, a2, a3, a4⟩ := ht
    refine ⟨n, a1, (e1 17 (by omega)).trans a2, (f1 7 (by omega)).trans a3, fun i hi => ?_⟩
    rw [e2 54 (by omega), f2 3 (by omega)]
    exact a4 i hi
  · rw [e1 18 (by omega), f1 8 (by omega)]; exact hw
  · rw [e1 16 (by omega), f1 22 (by omega)]; exact htn
  · intro k hk
    have := hsh k hk
    unfold RSheet at this ⊢
    rw [e2 63 (by omega), e2 64 (by omega), e2 65 (by omega), f2 9 (by omega), f2 10 (by omega), f2 11 (by omega)]
    exact this
  · obtain ⟨a1, a2, a3, a4, a5⟩ := hc
    exact ⟨(f1 15 (by omega)).trans a1, (f1 17 (by omega)).trans a2, (by rw [f2 1 (by omega)]; exact a3), (by rw [f2 4 (by omega)]; exact a4), by rw [f2 5 (by omega)]; exact a5⟩
/-- a page with one number more -/
def pu (P : Nat → Nat) (k x : Nat) : Nat → Nat := fun j => if j = k then x else P j
theorem pu_s (P : Nat → Nat) (k x : Nat) : pu P k x k = x := if_pos rfl
theorem pu_n (P : Nat → Nat) {k x j : Nat} (h : j ≠ k) : pu P k x j = P j := if_neg h
theorem PgM.pu {P : Nat → Nat} {v : St} (h : PgM 0 P v) {k x : Nat} (hk : k < 68) : PgM 0 (pu P k x) (sta v 0 (nI k) (nI x)) := fun j hj => by
  rw [sta_h _ _ (by omega)]
  by_cases q : j = k
  · subst q
    rw [if_pos (by omega), pu_s]
  · rw [if_neg (by omega), pu_n P q]
    exact h j hj
theorem step_docket {u v : St} (h : RR u v) (x0 x1 : Int32) : ∃ (r : Int32) (u' v' : St), pX6_docket LF x0 x1 u = some (r, u') ∧ pX7_docket LF x0 x1 v = some (r, v') ∧ RR u' v' := by
  obtain ⟨c, jn, P, ⟨c1, c2, c3, ⟨y1, y2, y3, y4, y5, y6, y7, y8, y9⟩, c5, c6, c7⟩, i0, i1, hs, ht, hw, htn, hsh, hc⟩ := id h
  have h55 : P 55 ≤ 6 := c3.2.1
  have y4' : u.1 3 = nI (P 55) := y4
  unfold pX6_docket pX7_docket
  rw [L55, gd_i (by omega) (by omega), cl (by omega), c7.g (by omega), y4']
  have hb : (nI (P 55) - 1).toInt = (P 55 : Int) - 1 := subL (by omega)
  rcases rng x0 (a0 := 0) (b0 := nI (P 55) - 1) (a1 := 0) (b1 := Int32.toInt64 (nI (P 55) - 1)) 0 ((P 55 : Int) - 1) rfl rfl hb (by rw [tI64]; exact hb) (by omega) (by omega) with ⟨a, a1, a2, rfl, e, e'⟩ | ⟨-, e, e'⟩
  · rw [e, e', bd_s, bd_s, i10, i10]
    rcases rng x1 (a0 := 0) (b0 := 1) (a1 := 0) (b1 := 1) 0 1 rfl rfl rfl rfl (by omega) (by omega) with ⟨b, b1, b2, rfl, k, k'⟩ | ⟨-, k, k'⟩
    · rw [k, k', bd_s, bd_s, i10, i10]
      obtain ⟨z1, z2⟩ := y9 a (by omega)
      simp (disch := omega) only [L0, L6, L56, nI_add, pk_mul, gd_i, cl, eqI]
      rw [c7.g (by omega)]
      have hb : b = 0 ∨ b = 1 := by omega
      rcases hb with rfl | rfl
      · exact ⟨nI (P (56 + a)), u, v, by rw [if_pos rfl]; exact congrArg (fun q => some (q, u)) z1, rfl, h⟩
      · exact ⟨nI (P (62 + a)), u, v, by rw [if_neg (by omega)]; exact congrArg (fun q => some (q, u)) z2, rfl, h⟩
    · rw [k, k', bd_s, bd_s, i00, i00]
      exact ⟨_, _, _, rfl, rfl, h⟩
  · rw [e, e', bd_s, bd_s, i00, i00]
    exact ⟨_, _, _, rfl, rfl, h⟩
theorem step_calm {u v : St} (h : RR u v) (x0 : Int32) : ∃ (r : Int32) (u' v' : St), pX6_calm LF x0 u = some (r, u') ∧ pX7_calm LF x0 v = some (r, v') ∧ RR u' v' := by
  obtain ⟨c, jn, P, ⟨c1, c2, c3, ⟨y1, y2, y3, y4, y5, y6, y7, y8, y9⟩, c5, c6, c7⟩, R⟩ := id h
  have h46 : P 46 ≤ 4 := c3.1
  have y3' : u.1 2 = nI (P 46) := y3
  unfold pX6_calm pX7_calm pX7_puts
  rw [L46, gd_i (by omega) (by omega), cl (by omega), c7.g (by omega), y3']
  have hb : (nI (P 46)).toInt = (P 46 : Int) := tI (by omega)
  rcases rng x0 (a0 := 0) (b0 := nI (P 46)) (a1 := 0) (b1 := Int32.toInt64 (nI (P 46))) 0 (P 46 : Int) rfl rfl hb (by rw [tI64]; exact hb) (by omega) (by omega) with ⟨a, a1, a2, rfl, e, e'⟩ | ⟨-, e, e'⟩
  · simp only [e, e', bd_s, i10, vl_e]
    rw [gd_i (by omega) (by omega), gd_i (by omega) (by omega), bd_s, c7.g (by omega), y3']
    refine ⟨nI (P 46), _, _, rfl, rfl, c, jn, pu P 46 a, ⟨c1, c2, ?_, ⟨y1, y2, rfl, y4, fun f hf => by rw [pu_n P (by omega), pu_n P (by omega), pu_n P (by omega)]; exact y5 f hf, fun f hf => by rw [pu_n P (by omega), pu_n P (by omega), pu_n P (by omega), pu_n P (by omega)]; exact y6 f hf, fun f hf => by rw [pu_n P (by omega), pu_n P (by omega)]; exact y7 f hf, ?_, fun f hf => by rw [pu_n P (by omega)] at hf; rw [pu_n P (by omega), pu_n P (by omega)]; exact y9 f hf⟩, c5, c6, c7.pu (by omega)⟩, ?_⟩
    · obtain ⟨p1, p2, p3, p4, p5, p6, p7⟩ := c3
      refine ⟨by rw [pu_s]; omega, p2, fun f hf => ?_, fun f hf => ?_, fun f hf => ?_, fun f hf => ?_, fun f hf => ?_⟩
      · rw [pu_n P (by omega), pu_n P (by omega), pu_n P (by omega)]; exact p3 f hf
      · rw [pu_n P (by omega), pu_n P (by omega), pu_n P (by omega), pu_n P (by omega)]; exact p4 f hf
      · rw [pu_n P (by omega), pu_n P (by omega)]; exact p5 f hf
      · rw [pu_s] at hf
        rw [pu_n P (by omega), pu_n P (by omega)]; exact p6 f (by omega)
      · have hf' : f < P 55 := hf
        rw [pu_n P (by omega), pu_n P (by omega)]; exact p7 f hf'
    · intro f hf
      rw [pu_s] at hf
      rw [pu_n P (by omega), pu_n P (by omega)]; exact y8 f (by omega)
    · have R' : Rest c jn u v := R
      exact R'.fr (fun k hk => by rw [stf_1, if_neg (by omega)]) (fun k hk => rfl) (fun k hk => rfl) (fun k hk => by rw [sta_m _ _ _ hk]) (fun i hi => by rw [sta_h _ _ (by omega), if_neg (by omega)])
  · simp only [e, e', bd_s, i00]
    exact ⟨_, _, _, rfl, rfl, h⟩
theorem step_cut {u v : St} (h : RR u v) (x0 : Int32) : ∃ (r : Int32) (u' v' : St), pX6_cut LF x0 u = some (r, u') ∧ pX7_cut LF x0 v = some (r, v') ∧ RR u' v' := by
  obtain ⟨c, jn, P, ⟨c1, c2, c3, ⟨y1, y2, y3, y4, y5, y6, y7, y8, y9⟩, c5, c6, c7⟩, R⟩ := id h
  have h55 : P 55 ≤ 6 := c3.2.1
  have y4' : u.1 3 = nI (P 55) := y4
  unfold pX6_cut pX7_cut pX7_puts
  rw [L55, gd_i (by omega) (by omega), cl (by omega), c7.g (by omega), y4']
  have hb : (nI (P 55)).toInt = (P 55 : Int) := tI (by omega)
  rcases rng x0 (a0 := 0) (b0 := nI (P 55)) (a1 := 0) (b1 := Int32.toInt64 (nI (P 55))) 0 (P 55 : Int) rfl rfl hb (by rw [tI64]; exact hb) (by omega) (by omega) with ⟨a, a1, a2, rfl, e, e'⟩ | ⟨-, e, e'⟩
  · simp only [e, e', bd_s, i10, vl_e]
    rw [gd_i (by omega) (by omega), gd_i (by omega) (by omega), bd_s, c7.g (by omega), y4']
    refine ⟨nI (P 55), _, _, rfl, rfl, c, jn, pu P 55 a, ⟨c1, c2, ?_, ⟨y1, y2, y3, rfl, fun f hf => by rw [pu_n P (by omega), pu_n P (by omega), pu_n P (by omega)]; exact y5 f hf, fun f hf => by rw [pu_n P (by omega), pu_n P (by omega), pu_n P (by omega), pu_n P (by omega)]; exact y6 f hf, fun f hf => by rw [pu_n P (by omega), pu_n P (by omega)]; exact y7 f hf, fun f hf => by
      have hf' : f < P 46 := hf
      have := c3.1
      rw [pu_n P (by omega), pu_n P (by omega)]; exact y8 f hf', fun f hf => by
      rw [pu_s] at hf
      rw [pu_n P (by omega), pu_n P (by omega)]; exact y9 f (by omega)⟩, c5, c6, c7.pu (by omega)⟩, ?_⟩
    · obtain ⟨p1, p2, p3, p4, p5, p6, p7⟩ := c3
      refine ⟨p1, by rw [pu_s]; omega, fun f hf => ?_, fun f hf => ?_, fun f hf => ?_, fun f hf => ?_, fun f hf => ?_⟩
      · rw [pu_n P (by omega), pu_n P (by omega), pu_n P (by omega)]; exact p3 f hf
      · rw [pu_n P (by omega), pu_n P (by omega), pu_n P (by omega), pu_n P (by omega)]; exact p4 f hf
      · rw [pu_n P (by omega), pu_n P (by omega)]; exact p5 f hf
      · have hf' : f < P 46 := hf
        rw [pu_n P (by omega), pu_n P (by omega)]; exact p6 f hf'
      · rw [pu_s] at hf
        rw [pu_n P (by omega), pu_n P (by omega)]; exact p7 f (by omega)
    · have R' : Rest c jn u v := R
      exact R'.fr (fun k hk => by rw [stf_1, if_neg (by omega)]) (fun k hk => rfl) (fun k hk => rfl) (fun k hk => by rw [sta_m _ _ _ hk]) (fun i hi => by rw [sta_h _ _ (by omega), if_neg (by omega)])
  · simp only [e, e', bd_s, i00]
    exact ⟨_, _, _, rfl, rfl, h⟩
