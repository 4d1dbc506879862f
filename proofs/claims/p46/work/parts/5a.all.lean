section
/-! PURE: rest -/
theorem al_i {f : Nat → Bool} : ∀ {n : Nat}, (∀ i, i < n → f i = true) → al f n = true
  | 0, _ => rfl
  | n + 1, h => by
    unfold al
    rw [h n (by omega), al_i (fun i hi => h i (by omega))]
    rfl
def w0 (v : Nat) : Nat := if v = 3 then 1 else if v = 1 then 2 else 0
def w1 (v : Nat) : Nat := if v = 3 then 1 else if v = 2 then 2 else 0
theorem w01 {v : Nat} (h : 1 ≤ v ∧ v ≤ 3) : w0 v + w1 v = 2 := by
  have q : v = 1 ∨ v = 2 ∨ v = 3 := by omega
  rcases q with rfl | rfl | rfl <;> decide
theorem w0_lt (v : Nat) : w0 v < 1000 := by
  unfold w0
  split <;> (try split) <;> omega
theorem w1_lt (v : Nat) : w1 v < 1000 := by
  unfold w1
  split <;> (try split) <;> omega
theorem X_worth0 (F : Nat) {v : Nat} (u : St) (h : v < 1000) : pX6_worth F (nI v) 0 u = some (nI (w0 v), u) := by
  unfold pX6_worth w0
  rw [show (0 : Int32) + 1 = nI 1 from by decide +kernel, L3, ifeq (by omega) (by omega), ifeq (by omega) (by omega)]
  by_cases q : v = 3
  · rw [if_pos q, if_pos q]; rfl
  · rw [if_neg q, if_neg q]
    by_cases z : v = 1
    · rw [if_pos z, if_pos z]; rfl
    · rw [if_neg z, if_neg z]; rfl
theorem X_worth1 (F : Nat) {v : Nat} (u : St) (h : v < 1000) : pX6_worth F (nI v) 1 u = some (nI (w1 v), u) := by
  unfold pX6_worth w1
  rw [show (1 : Int32) + 1 = nI 2 from by decide +kernel, L3, ifeq (by omega) (by omega), ifeq (by omega) (by omega)]
  by_cases q : v = 3
  · rw [if_pos q, if_pos q]; rfl
  · rw [if_neg q, if_neg q]
    by_cases z : v = 2
    · rw [if_pos z, if_pos z]; rfl
    · rw [if_neg z, if_neg z]; rfl
/-- neither would rather have another hand -/
def rc (P : Nat → Nat) (a b x y o : Nat) : Bool := decide (w0 (gG P a b o y) ≤ w0 (gG P a b x y)) && decide (w0 (gG P a b x y) ≤ w0 (gG P a b x o))
def rs (P : Nat → Nat) (a b k : Nat) : Bool := al (rc P a b (k / 10) (k % 10)) 10
theorem X_rests (F : Nat) (hF : 80 ≤ F) {c jn a b x y : Nat} {P : Nat → Nat} (w : St) (hc4 : c ≤ 4) (hj3 : jn ≤ 3) (hPg : PgOK c jn P) (ha : a < c) (hb : b < jn) (ht : ∀ k, k < 100 → w.2 52 k = nI (gG P a b (k / 10) (k % 10))) (hx : x < 10) (hy : y < 10) : pX6_isAtRest F (nI x) (nI y) w = some (if al (rc P a b x y) 10 = true then 1 else 0, w) := by
  have hg : ∀ i j, i < 10 → j < 10 → w.2 52 (10 * i + j) = nI (gG P a b i j) := fun i j hi hj => by
    rw [ht _ (by omega), show (10 * i + j) / 10 = i by omega, show (10 * i + j) % 10 = j by omega]
  have hbd : ∀ i j, i < 10 → j < 10 → 1 ≤ gG P a b i j ∧ gG P a b i j ≤ 3 := fun i j hi hj => gG_bd hPg hc4 hj3 ha hb (by omega) (by omega)
  unfold pX6_isAtRest
  rw [tm10, nI_add, gd_i (by omega) (by omega), vl_e, cl (by omega), hg x y hx hy]
  refine lq1_up (n := 10) (I := fun i z => z = w ∧ ∀ o, o < i → rc P a b x y o = true) (Q := fun o => o = some (if al (rc P a b x y) 10 = true then 1 else 0, w)) ?_ ?_ 10 0 F w (by omega) (by omega) ⟨rfl, fun o ho => by omega⟩
  · rintro g z ⟨rfl, h1⟩
    unfold bX6_isAtRest_15
    rw [if_pos (show (10 : Int32) ≤ nI 10 by decide), if_pos (al_i h1)]
  · rintro g i z hi ⟨rfl, h1⟩
    have b0 := hbd x y hx hy
    have b1 := hbd i y hi hy
    have b2 := hbd x i hx hi
    have s0 := w01 b0
    have s2 := w01 b2
    have hrun : bX6_isAtRest_15 F (nI x) (nI y) (nI (gG P a b x y)) g (nI i) z = if rc P a b x y i = true then g (nI (i + 1)) z else some (0, z) := by
      unfold bX6_isAtRest_15
      rw [if_neg (show ¬ (10 : Int32) ≤ nI i from by rw [L10]; exact nle hi (by omega)), tm10, tm10, nI_add, nI_add, nI_s, gd_i (by omega) (by omega), cl (by omega), hg i y hi hy]
      simp only [gd_i (show 10 * x + i < 100 by omega) (show 100 < 2147483648 by omega), cl (show 10 * x + i < 2147483648 by omega), hg x i hx hi, X_worth0 F z (show gG P a b i y < 1000 by omega), X_worth0 F z (show gG P a b x y < 1000 by omega), X_worth1 F z (show gG P a b x i < 1000 by omega), X_worth1 F z (show gG P a b x y < 1000 by omega), bd_s]
      rw [iflt (by have := w0_lt (gG P a b x y); omega) (by have := w0_lt (gG P a b i y); omega), ifle (by have := w1_lt (gG P a b x i); omega) (by have := w1_lt (gG P a b x y); omega)]
      unfold rc
      by_cases q : w0 (gG P a b x y) < w0 (gG P a b i y)
      · rw [if_pos q, decide_eq_false (show ¬ w0 (gG P a b i y) ≤ w0 (gG P a b x y) by omega), Bool.false_and, if_neg (by decide)]
      · rw [if_neg q, decide_eq_true (show w0 (gG P a b i y) ≤ w0 (gG P a b x y) by omega), Bool.true_and]
        by_cases t : w1 (gG P a b x i) ≤ w1 (gG P a b x y)
        · rw [if_pos t, if_pos (decide_eq_true (by omega))]
        · rw [if_neg t, decide_eq_false (by omega), if_neg (by decide)]
    by_cases q : rc P a b x y i = true
    · refine Or.inr ⟨z, by rw [hrun, if_pos q], rfl, fun o ho => ?_⟩
      by_cases t : o = i
      · rw [t]; exact q
      · exact h1 o (by omega)
    · refine Or.inl ?_
      rw [hrun, if_neg q, al_f hi (Bool.eq_false_iff.mpr q), if_neg (by decide)]
theorem M_rests (F : Nat) (hF : 80 ≤ F) {a b x y : Nat} {P : Nat → Nat} (w : St) (ht : ∀ k, k < 100 → w.2 6 k = nI (w0 (gG P a b (k / 10) (k % 10)))) (hx : x < 10) (hy : y < 10) : pX7_isRest F (nI x) (nI y) w = some (if al (rc P a b x y) 10 = true then 1 else 0, w) := by
  have hg : ∀ i j, i < 10 → j < 10 → w.2 6 (10 * i + j) = nI (w0 (gG P a b i j)) := fun i j hi hj => by
    rw [ht _ (by omega), show (10 * i + j) / 10 = i by omega, show (10 * i + j) % 10 = j by omega]
  unfold pX7_isRest
  refine lq2_up (n := 10) (I := fun i r z => z = w ∧ r = if al (rc P a b x y) i = true then 1 else 0) (Q := fun o => o = some (if al (rc P a b x y) 10 = true then 1 else 0, w)) ?_ ?_ 10 0 F 1 w (by omega) (by omega) ⟨rfl, rfl⟩
  · rintro g r z ⟨rfl, rfl⟩
    unfold bX7_isRest_5
    rw [if_pos (show (9 : Int32) < nI 10 by decide)]
    cases al (rc P a b x y) 10
    · rfl
    · rfl
  · rintro g i r z hi ⟨rfl, rfl⟩
    refine Or.inr ⟨if al (rc P a b x y) (i + 1) = true then 1 else 0, z, ?_, rfl, rfl⟩
    unfold bX7_isRest_5
    rw [if_neg (show ¬ (9 : Int32) < nI i from by rw [L9]; exact nlt (by omega) (by omega)), nI_s]
    rcases hq : al (rc P a b x y) i with _ | _
    · have e : al (rc P a b x y) (i + 1) = false := by
        unfold al
        rw [hq, Bool.false_and]
      rw [e]
      simp only [jn_e, Bool.false_eq_true, if_true, if_false]
    · have e : al (rc P a b x y) (i + 1) = rc P a b x y i := by
        rw [al, hq, Bool.true_and]
      rw [e, if_pos rfl]
      simp only [jn_e, i10, tm10, nI_add]
      have a0 := w0_lt (gG P a b x y)
      have a1 := w0_lt (gG P a b i y)
      have a2 := w0_lt (gG P a b x i)
      rw [gd_i (n := 10 * i + y) (by omega) (by omega), gd_i (n := 10 * x + y) (by omega) (by omega), gd_i (n := 10 * x + i) (by omega) (by omega), gd_i (n := 10 * x + y) (by omega) (by omega), cl (n := 10 * i + y) (by omega), cl (n := 10 * x + y) (by omega), cl (n := 10 * x + i) (by omega), hg i y hi hy, hg x i hx hi, hg x y hx hy, iflt (by omega) (by omega), iflt (by omega) (by omega)]
      unfold rc
      by_cases q : w0 (gG P a b x y) < w0 (gG P a b i y)
      · rw [if_pos q, decide_eq_false (show ¬ w0 (gG P a b i y) ≤ w0 (gG P a b x y) by omega), Bool.false_and, if_neg (by decide)]
      · rw [if_neg q, decide_eq_true (show w0 (gG P a b i y) ≤ w0 (gG P a b x y) by omega), Bool.true_and]
        by_cases t : w0 (gG P a b x i) < w0 (gG P a b x y)
        · rw [if_pos t, decide_eq_false (by omega), if_neg (by decide)]
        · rw [if_neg t, if_pos (decide_eq_true (by omega))]
theorem FF.s {q : Nat → Bool} {i : Nat} {y : Int32} (h : FF q i y) (hi : i < 2147483648) : FF q (i + 1) (if q i = true then (if y = -4 then nI i else y) else y) := by
  rcases h with ⟨m, m1, m2, m3, rfl⟩ | ⟨h1, rfl⟩
  · rw [if_neg (m4_lt (by omega)).2.1]
    have e : (if q i = true then nI m else nI m) = nI m := by split <;> rfl
    rw [e]
    exact Or.inl ⟨m, by omega, m2, m3, rfl⟩
  · rw [if_pos rfl]
    by_cases z : q i = true
    · rw [if_pos z]
      exact Or.inl ⟨i, by omega, z, h1, rfl⟩
    · rw [if_neg z]
      refine Or.inr ⟨fun m hm => ?_, rfl⟩
      by_cases t : m = i
      · rw [t]; exact Bool.eq_false_iff.mpr z
      · exact h1 m (by omega)
theorem cn_0 {q : Nat → Bool} : ∀ n, (cn q n = 0 ↔ ∀ m, m < n → q m = false)
  | 0 => ⟨fun _ m hm => by omega, fun _ => rfl⟩
  | n + 1 => by
    have ih := cn_0 (q := q) n
    unfold cn
    constructor
    · intro h m hm
      have h1 : cn q n = 0 := by omega
      by_cases t : m = n
      · rw [t]
        rcases hq : q n with _ | _
        · rfl
        · rw [hq, if_pos rfl] at h; omega
      · exact ih.mp h1 m (by omega)
    · intro h
      rw [ih.mpr (fun m hm => h m (by omega)), h n (by omega), if_neg (by decide)]
theorem FF.c {q : Nat → Bool} {i : Nat} {y : Int32} (h : FF q i y) (hi : i < 2147483648) : (y = -4) = (cn q i = 0) := by
  rcases h with ⟨m, m1, m2, m3, rfl⟩ | ⟨h1, rfl⟩
  · have e1 := (m4_lt (n := m) (by omega)).2.1
    have e2 : ¬ cn q i = 0 := fun z => by
      have := (cn_0 i).mp z m m1
      rw [m2] at this
      exact absurd this (by decide)
    rw [eq_false e1, eq_false e2]
  · rw [eq_true (show (-4 : Int32) = -4 from rfl), eq_true ((cn_0 i).mpr h1)]
theorem st_rest (F : Nat) (hLF : 200 ≤ F) {u v : St} (h : RR u v) (x0 x1 x2 : Int32) : ∃ (r : Int32) (u' v' : St), pX6_rest F x0 x1 x2 u = some (r, u') ∧ pX7_rest F x0 x1 x2 v = some (r, v') ∧ RR u' v' := by
  obtain ⟨c, jn, P, ⟨c1, c2, c3, hX, c5, c6, c7⟩, i0, i1, hs, ht, hw, htn, hsh, hc⟩ := id h
  unfold pX6_rest pX7_rest pX7_isHeard
  rcases two_case x0 c1 hX.1 c5 with ⟨a, a1, rfl, e, e'⟩ | ⟨e, e'⟩
  · rcases two_judge x1 c2 hX.2.1 c6 with ⟨b, b1, rfl, k, k'⟩ | ⟨k, k'⟩
    · rcases rng x2 (a0 := 0) (b0 := 1) (a1 := 0) (b1 := 1) 0 1 rfl rfl rfl rfl (by omega) (by omega) with ⟨s, s1, s2, rfl, q, q'⟩ | ⟨-, q, q'⟩
      · simp only [e, e', k, k', q, q', bd_s, i10, jn_e]
        obtain ⟨u1, g1, g2, g3⟩ := X_fill F hLF u c1 c2 c3 hX a1 b1
        have pX : ∃ x, lq3 (bX6_rest_51 F (jX6_rest_100 F (nI s))) F 0 (-4) 0 u1 = jX6_rest_100 F (nI s) (nI (cn (rs P a b) 100)) x u1 ∧ FF (rs P a b) 100 x := by
          refine lq3_up (n := 100) (I := fun i x y w => x = nI (cn (rs P a b) i) ∧ FF (rs P a b) i y ∧ w = u1) (Q := fun o => ∃ x : Int32, o = jX6_rest_100 F (nI s) (nI (cn (rs P a b) 100)) x u1 ∧ FF (rs P a b) 100 x) ?_ ?_ 100 0 F 0 (-4) u1 (by omega) (by omega) ⟨rfl, Or.inr ⟨fun m hm => by omega, rfl⟩, rfl⟩
          · rintro g x y w ⟨rfl, h2, rfl⟩
            refine ⟨y, ?_, h2⟩
            unfold bX6_rest_51
            rw [if_pos (show (100 : Int32) ≤ nI 100 by decide)]
          · rintro g i x y w hi ⟨rfl, h2, rfl⟩
            obtain ⟨d1, d2⟩ := dv10 i hi
            have hr := X_rests F (by omega) (x := i / 10) (y := i % 10) w c1 c2 c3 a1 b1 g2 (by omega) (by omega)
            refine Or.inr ⟨nI (cn (rs P a b) (i + 1)), _, w, ?_, rfl, h2.s (by omega), rfl⟩
            unfold bX6_rest_51
            rw [if_neg (show ¬ (100 : Int32) ≤ nI i from by rw [L100]; exact nle hi (by omega)), nz10, gd_true, gd_true, d1, d2, hr, bd_s, nI_s, nI_s]
            simp only [jn_e]
            rw [cn]
            show (if (if rs P a b i = true then (1 : Int32) else 0) = 0 then _ else _) = _
            by_cases z : rs P a b i = true
            · rw [if_pos z, if_neg (show ¬ (1 : Int32) = 0 by decide), if_pos z, if_pos z]
              split <;> rfl
            · rw [if_neg z, if_pos rfl, if_neg z, if_neg z]
              try rfl
        have pM : ∃ v1, lq1 (bX7_rest_24 F (nI a) (nI b) (jX7_rest_83 F (nI s))) F 0 v = jX7_rest_83 F (nI s) v1 ∧ (∀ k, k < 100 → v1.2 6 k = nI (w0 (gG P a b (k / 10) (k % 10)))) ∧ eqM v v1 := by
          refine lq1_up (n := 100) (I := fun i y => (∀ k, k < i → y.2 6 k = nI (w0 (gG P a b (k / 10) (k % 10)))) ∧ (∀ k, k ≠ 18 → y.1 k = v.1 k) ∧ (∀ k, k ≠ 0 → k ≠ 6 → y.2 k = v.2 k) ∧ ∀ i, (i < 272 ∨ 408 ≤ i) → y.2 0 i = v.2 0 i) (Q := fun o => ∃ v1 : St, o = jX7_rest_83 F (nI s) v1 ∧ (∀ k, k < 100 → v1.2 6 k = nI (w0 (gG P a b (k / 10) (k % 10)))) ∧ eqM v v1) ?_ ?_ 100 0 F v (by omega) (by omega) ⟨fun k hk => by omega, fun _ _ => rfl, fun _ _ _ => rfl, fun _ _ => rfl⟩
          · rintro g y ⟨h1, h2, h3, h4⟩
            refine ⟨y, ?_, h1, fun i hi => h4 i (by omega), ⟨h2 _ (by omega), h2 _ (by omega), h2 _ (by omega), h2 _ (by omega), h2 _ (by omega), h2 _ (by omega), h2 _ (by omega), h2 _ (by omega)⟩, fun k hk => h3 k (by omega) (by omega)⟩
            unfold bX7_rest_24
            rw [if_pos (show (100 : Int32) ≤ nI 100 by decide)]
          · rintro g i y hi ⟨h1, h2, h3, h4⟩
            obtain ⟨d1, d2⟩ := dv10 i hi
            have yM : PgM 0 P y := fun k hk => (h4 _ (by omega)).trans (c7 k hk)
            have yE : MEnv 0 0 0 y := by
              obtain ⟨e1, e2, e3, e4, e5, e6, e7⟩ := menv0 hc
              exact ⟨e1, (h2 15 (by omega)).trans e2, Or.inl rfl, (h2 17 (by omega)).trans e4, e5, e6, (h3 1 (by omega) (by omega)).trans e7⟩
            obtain ⟨t, t1, t2⟩ := M_guards F (by omega) (x := i / 10) (y := i % 10) y c1 c2 c3 yM yE a1 b1 (by omega) (by omega)
            have hbd := gG_bd c3 c1 c2 a1 b1 (x := i / 10) (y := i % 10) (by omega) (by omega)
            refine Or.inr ⟨sta t 6 (nI i) (nI (w0 (gG P a b (i / 10) (i % 10)))), ?_, fun k hk => ?_, fun k hk => (t2.1 k hk).trans (h2 k hk), fun k q1 q2 => by rw [sta_m _ _ _ q2, t2.2.1 k q1, h3 k q1 q2], fun k hk => by rw [sta_m _ _ _ (by omega), t2.2.2 k hk, h4 k hk]⟩
            · unfold bX7_rest_24
              rw [if_neg (show ¬ (100 : Int32) ≤ nI i from by rw [L100]; exact nle hi (by omega)), nz10, gd_true, gd_true, d1, d2, t1, bd_s]
              simp only [jn_e, vl_e, nI_s, gd_i hi (show 100 < 2147483648 by omega)]
              generalize gG P a b (i / 10) (i % 10) = G at hbd ⊢
              have q : G = 1 ∨ G = 2 ∨ G = 3 := by omega
              rcases q with rfl | rfl | rfl
              · rw [if_pos (show nI 1 = 1 from rfl)]; rfl
              · rw [if_neg (show ¬ nI 2 = 1 by decide), if_neg (show ¬ nI 2 = 3 by decide)]; rfl
              · rw [if_neg (show ¬ nI 3 = 1 by decide), if_pos (show nI 3 = 3 from rfl)]; rfl
            · rw [sta_h _ _ (by omega)]
              by_cases q : k = i
              · rw [if_pos q, q]
              · rw [if_neg q, t2.2.1 6 (by omega)]; exact h1 k (by omega)
        obtain ⟨v1, m1, m2, m3⟩ := pM
        have pN : ∃ x, lq3 (bX7_rest_93 F (jX7_rest_156 F (nI s))) F 0 (-4) 0 v1 = jX7_rest_156 F (nI s) (nI (cn (rs P a b) 100)) x v1 ∧ FF (rs P a b) 100 x := by
          refine lq3_up (n := 100) (I := fun i x y w => x = nI (cn (rs P a b) i) ∧ FF (rs P a b) i y ∧ w = v1) (Q := fun o => ∃ x : Int32, o = jX7_rest_156 F (nI s) (nI (cn (rs P a b) 100)) x v1 ∧ FF (rs P a b) 100 x) ?_ ?_ 100 0 F 0 (-4) v1 (by omega) (by omega) ⟨rfl, Or.inr ⟨fun m hm => by omega, rfl⟩, rfl⟩
          · rintro g x y w ⟨rfl, h2, rfl⟩
            refine ⟨y, ?_, h2⟩
            unfold bX7_rest_93
            rw [if_pos (show (100 : Int32) ≤ nI 100 by decide)]
          · rintro g i x y w hi ⟨rfl, h2, rfl⟩
            obtain ⟨d1, d2⟩ := dv10 i hi
            have hr := M_rests F (by omega) (x := i / 10) (y := i % 10) w m2 (by omega) (by omega)
            have hcn := cn_le (rs P a b) i
            refine Or.inr ⟨nI (cn (rs P a b) (i + 1)), _, w, ?_, rfl, h2.s (by omega), rfl⟩
            have e0 : (nI (cn (rs P a b) i) = 0) = (y = -4) := by
              rw [h2.c (by omega), L0]
              exact propext (eqI (by omega) (by omega))
            unfold bX7_rest_93
            rw [if_neg (show ¬ (100 : Int32) ≤ nI i from by rw [L100]; exact nle hi (by omega)), nz10, gd_true, gd_true, d1, d2, hr, bd_s]
            simp only [jn_e, vl_e, nI_s, e0]
            rw [cn]
            have er : al (rc P a b (i / 10) (i % 10)) 10 = rs P a b i := rfl
            rw [er]
            by_cases z : rs P a b i = true
            · simp only [if_pos z, if_neg (show ¬ (1 : Int32) = 0 by decide), nI_s]
              split <;> rfl
            · simp only [if_neg z, if_true]
              rw [show nI (cn (rs P a b) i) + 0 = nI (cn (rs P a b) i + 0) from by rw [L0, nI_add]]
        obtain ⟨x, p1, p2⟩ := pX
        obtain ⟨x', n1, n2⟩ := pN
        have er := p2.un n2
        subst er
        rw [g1, bd_s, p1, m1]
        unfold jX7_rest_83
        rw [jn_e, n1]
        unfold jX6_rest_100 jX7_rest_156
        have hR := h.eq g3.x m3
        by_cases z : nI s = 0
        · rw [if_pos z, if_pos z]; exact ⟨_, _, _, rfl, rfl, hR⟩
        · rw [if_neg z, if_neg z]; exact ⟨_, _, _, rfl, rfl, hR⟩
      · simp only [e, e', k, k', q, q', bd_s, i10, i00]
        exact ⟨_, _, _, rfl, rfl, h⟩
    · simp only [e, e', k, k', bd_s, i10, i00]
      exact ⟨_, _, _, rfl, rfl, h⟩
  · simp only [e, e', bd_s, i00]
    exact ⟨_, _, _, rfl, rfl, h⟩
theorem step_rest {u v : St} (h : RR u v) (x0 x1 x2 : Int32) : ∃ (r : Int32) (u' v' : St), pX6_rest LF x0 x1 x2 u = some (r, u') ∧ pX7_rest LF x0 x1 x2 v = some (r, v') ∧ RR u' v' := st_rest LF (by decide) h x0 x1 x2
end
section
/-! PURE: share -/
def dn (q : Nat → Bool) : Nat → Nat → Nat
  | 0, m => m
  | k + 1, m => dn q k (if q k = true then k else m)
theorem dn_lt (q : Nat → Bool) {n : Nat} : ∀ k m, k ≤ n → m < n → dn q k m < n
  | 0, m, _, h => h
  | k + 1, m, h1, h2 => by
    unfold dn
    refine dn_lt q k _ (by omega) ?_
    split <;> omega
def tz (k : Nat) : Nat := if k % 2 = 1 then 0 else if k % 4 = 2 then 1 else 2
theorem bN_dn (q : Nat → Bool) : ∀ n, 0 < n → n ≤ 3 → (bN q n = 0 → dn q n 0 = 0) ∧ (bN q n ≠ 0 → dn q n 0 = tz (bN q n)) ∧ q (dn q n 0) = decide (bN q n ≠ 0) ∧ bN q n < 8
  | 0, h, _ => by omega
  | 1, _, _ => by
    rcases h0 : q 0 with _ | _ <;> simp [bN, dn, h0, tz]
  | 2, _, _ => by
    rcases h0 : q 0 with _ | _ <;> rcases h1 : q 1 with _ | _ <;> simp [bN, dn, h0, h1, tz]
  | 3, _, _ => by
    rcases h0 : q 0 with _ | _ <;> rcases h1 : q 1 with _ | _ <;> rcases h2 : q 2 with _ | _ <;> simp [bN, dn, h0, h1, h2, tz]
  | n + 4, _, h => by omega
theorem ntz_v : ∀ k, k < 8 → 0 < k → ((nI k ^^^ (-1)) &&& (nI k - 1)) = nI (2 ^ tz k - 1) := by decide +kernel
theorem tz_3 (k : Nat) : tz k = 0 ∨ tz k = 1 ∨ tz k = 2 := by
  unfold tz
  split
  · exact Or.inl rfl
  · split
    · exact Or.inr (Or.inl rfl)
    · exact Or.inr (Or.inr rfl)
theorem X_ntz (F : Nat) (u : St) {k : Nat} (h1 : k < 8) (h2 : 0 < k) : pJ6_numberOfTrailingZeros_0f7a4 F (nI k) u = some (nI (tz k), u) := by
  unfold pJ6_numberOfTrailingZeros_0f7a4
  rw [ntz_v k h1 h2]
  simp only [vl_e, jn_e]
  rcases tz_3 k with q | q | q
  · rw [q, if_neg (show ¬ (0 : Int32) < nI (2 ^ 0 - 1) by decide +kernel), show (nI (2 ^ 0 - 1) &&& 32) = nI 0 from by decide +kernel]
  · rw [q, if_pos (show (0 : Int32) < nI (2 ^ 1 - 1) by decide +kernel), if_pos (show nI (2 ^ 1 - 1) ≤ 65536 by decide +kernel), if_pos (show nI (2 ^ 1 - 1) ≤ 256 by decide +kernel), if_pos (show nI (2 ^ 1 - 1) ≤ 16 by decide +kernel), if_pos (show nI (2 ^ 1 - 1) ≤ 4 by decide +kernel), show (1 : Int32) + ushr (nI (2 ^ 1 - 1)) 1 = nI 1 from by decide +kernel]
  · rw [q, if_pos (show (0 : Int32) < nI (2 ^ 2 - 1) by decide +kernel), if_pos (show nI (2 ^ 2 - 1) ≤ 65536 by decide +kernel), if_pos (show nI (2 ^ 2 - 1) ≤ 256 by decide +kernel), if_pos (show nI (2 ^ 2 - 1) ≤ 16 by decide +kernel), if_pos (show nI (2 ^ 2 - 1) ≤ 4 by decide +kernel), show (1 : Int32) + ushr (nI (2 ^ 2 - 1)) 1 = nI 2 from by decide +kernel]
def qw (P : Nat → Nat) (jn s cc : Nat) : Bool := decide (P (24 + cc) = 0) && decide (bN (wn P (stg P 0 (P 46)) cc s) jn ≠ 0)
def bst (P : Nat → Nat) (jn s cc : Nat) : Int32 := if P (24 + cc) = 0 then nI (dn (wn P (stg P 0 (P 46)) cc s) jn 0) else -4
theorem X_may (F : Nat) (hF : 80 ≤ F) {c jn s : Nat} {P : Nat → Nat} (u : St) (hc4 : c ≤ 4) (hj3 : jn ≤ 3) (hPg : PgOK c jn P) (hX : CtX 0 c jn P u) (hs : s < 2) : ∃ u', pX6_casesThatMayBeWon F (nI s) u = some (nI (cn (qw P jn s) c), u') ∧ eqT u u' := by
  unfold pX6_casesThatMayBeWon
  refine lq2_up (n := c) (I := fun i x w => x = nI (cn (qw P jn s) i) ∧ eqT u w) (Q := fun o => ∃ u' : St, o = some (nI (cn (qw P jn s) c), u') ∧ eqT u u') ?_ ?_ c 0 F 0 u (by omega) (by omega) ⟨rfl, eqT.rf⟩
  · rintro g x w ⟨rfl, hw⟩
    refine ⟨w, ?_, hw⟩
    have h1 : w.1 0 = nI c := (hw.1 0 (by omega)).trans hX.1
    unfold bX6_casesThatMayBeWon_4
    rw [h1, if_pos (yle (Nat.le_refl _) (by omega))]
  · rintro g i x w hi ⟨rfl, hw⟩
    have h1 : w.1 0 = nI c := (hw.1 0 (by omega)).trans hX.1
    have hX' := hX.eq (by omega) hw.x
    have h3 : w.2 3 i = nI (P (24 + i)) := (hX'.2.2.2.2.2.1 i hi).1
    have hb := (hPg.2.2.2.1 i hi).1
    obtain ⟨y, y1, y2⟩ := X_judges F hF w hc4 hj3 hPg hX' hi hs
    obtain ⟨k1, k2, -⟩ := bI_k (wn P (stg P 0 (P 46)) i s) jn (by omega)
    rw [k1] at y1
    by_cases q : P (24 + i) = 0
    · refine Or.inr ⟨nI (cn (qw P jn s) (i + 1)), y, ?_, rfl, hw.tr y2⟩
      unfold bX6_casesThatMayBeWon_4
      rw [h1, if_neg (nle hi (by omega)), gd_i (by omega) (by omega), cl (by omega), h3, q]
      simp only [jn_e, vl_e]
      rw [if_pos (show nI 0 = 0 from rfl), y1, bd_s, nI_s, cn]
      unfold qw
      rw [decide_eq_true q, Bool.true_and]
      by_cases z : bN (wn P (stg P 0 (P 46)) i s) jn = 0
      · rw [z, if_pos (show nI 0 = 0 from rfl), if_neg (by decide), show nI (cn (fun cc => decide (P (24 + cc) = 0) && decide (bN (wn P (stg P 0 (P 46)) cc s) jn ≠ 0)) i) + 0 = nI (cn (fun cc => decide (P (24 + cc) = 0) && decide (bN (wn P (stg P 0 (P 46)) cc s) jn ≠ 0)) i + 0) from by rw [L0, nI_add]]
      · rw [if_neg (n0f z (by omega)), if_pos (decide_eq_true z), nI_s]
    · refine Or.inr ⟨nI (cn (qw P jn s) (i + 1)), w, ?_, rfl, hw⟩
      unfold bX6_casesThatMayBeWon_4
      rw [h1, if_neg (nle hi (by omega)), gd_i (by omega) (by omega), cl (by omega), h3]
      simp only [jn_e, vl_e]
      rw [if_neg (n0f q (by omega)), nI_s, cn]
      have e : qw P jn s i = false := by
        unfold qw
        rw [decide_eq_false q, Bool.false_and]
      rw [e, if_neg (by decide), L0, nI_add]
theorem X_best (F : Nat) (hF : 80 ≤ F) {c jn s a : Nat} {P : Nat → Nat} (u : St) (hc4 : c ≤ 4) (hj3 : jn ≤ 3) (hj0 : 0 < jn) (hPg : PgOK c jn P) (hX : CtX 0 c jn P u) (ha : a < c) (hs : s < 2) : ∃ u', pX6_bestJudge F (nI a) (nI s) u = some (bst P jn s a, u') ∧ eqT u u' := by
  have h3 : u.2 3 a = nI (P (24 + a)) := (hX.2.2.2.2.2.1 a ha).1
  have hb := (hPg.2.2.2.1 a ha).1
  obtain ⟨y, y1, y2⟩ := X_judges F hF u hc4 hj3 hPg hX ha hs
  obtain ⟨k1, k2, -⟩ := bI_k (wn P (stg P 0 (P 46)) a s) jn (by omega)
  obtain ⟨d1, d2, d3, d4⟩ := bN_dn (wn P (stg P 0 (P 46)) a s) jn hj0 hj3
  rw [k1] at y1
  unfold pX6_bestJudge bst
  rw [gd_i (by omega) (by omega), cl (by omega), h3]
  by_cases q : P (24 + a) = 0
  · refine ⟨y, ?_, y2⟩
    rw [q, if_pos (show nI 0 = 0 from rfl), if_pos rfl, y1, bd_s]
    by_cases z : bN (wn P (stg P 0 (P 46)) a s) jn = 0
    · rw [d1 z, z, if_pos (show nI 0 = 0 from rfl)]; rfl
    · rw [if_neg (n0f z (by omega)), X_ntz F y d4 (by omega), bd_s, d2 z]
  · refine ⟨u, ?_, eqT.rf⟩
    rw [if_neg (n0f q (by omega)), if_neg q]
theorem M_dn (F : Nat) (hF : 80 ≤ F) {c jn a s : Nat} {P : Nat → Nat} (v : St) (J : Int32 → St → Option (Int32 × St)) (hc4 : c ≤ 4) (hj3 : jn ≤ 3) (hPg : PgOK c jn P) (hM : PgM 0 P v) (hE : MEnv 0 0 0 v) (ha : a < c) (hs : s < 2) : ∀ (k f m : Nat) (w : St), k < f → k ≤ jn → m < 1000 → eqR v w → ∃ w', lq2 (bX7_share_89 F (nI s) (nI a) J) f (nI m) (nI k - 1) w = J (nI (dn (wn P (stg P 0 (P 46)) a s) k m)) w' ∧ eqR v w'
  | k, 0, m, w, h1, h2, h3, h4 => by omega
  | 0, f + 1, m, w, h1, h2, h3, h4 => by
    refine ⟨w, ?_, h4⟩
    rw [lq2_s]
    unfold bX7_share_89
    rw [if_pos (show nI 0 - 1 < (0 : Int32) by decide)]
    rfl
  | k + 1, f + 1, m, w, h1, h2, h3, h4 => by
    obtain ⟨t, t1, t2⟩ := M_isWon0 F hF (jj := k) w hc4 hj3 hPg (h4.pg hM) (h4.env hE) ha (by omega) hs
    obtain ⟨w', g1, g2⟩ := M_dn F hF v J hc4 hj3 hPg hM hE ha hs k f (if wn P (stg P 0 (P 46)) a s k = true then k else m) t (by omega) (by omega) (by split <;> omega) (h4.tr t2)
    refine ⟨w', ?_, g2⟩
    rw [lq2_s]
    generalize lq2 (bX7_share_89 F (nI s) (nI a) J) f = self at g1 ⊢
    unfold bX7_share_89
    rw [show nI (k + 1) - 1 = nI k from by rw [L1, subI (by omega)]; rfl, if_neg (show ¬ nI k < (0 : Int32) from by rw [L0]; exact nlt (by omega) (by omega)), if_neg (m4_lt (by omega)).2.1, t1, bd_s, ← Int32.sub_eq_add_neg]
    simp only [jn_e]
    rw [dn]
    by_cases q : wn P (stg P 0 (P 46)) a s k = true
    · rw [if_pos q] at g1 ⊢
      rw [if_neg (show ¬ (1 : Int32) = 0 by decide), if_pos q]
      exact g1
    · rw [if_neg q] at g1 ⊢
      rw [if_pos rfl, if_neg q]
      exact g1
def asg (P : Nat → Nat) (jn s : Nat) (x : Int32) : Nat → Int32
  | 0 => -4
  | i + 1 => if x - 10 = nI i then bst P jn s i else asg P jn s x i
theorem asg_e (P : Nat → Nat) (jn s : Nat) {a : Nat} : ∀ n, a < n → n < 1000 → asg P jn s (nI (10 + a)) n = bst P jn s a
  | 0, h, _ => by omega
  | n + 1, h, hn => by
    unfold asg
    rw [show nI (10 + a) - 10 = nI a from by rw [L10, subI (by omega), show 10 + a - 10 = a by omega]]
    by_cases q : a = n
    · rw [if_pos (by rw [q]), q]
    · rw [if_neg (neI q (by omega) (by omega)), asg_e P jn s n (by omega) (by omega)]
theorem M_shareL (F : Nat) (hF : 80 ≤ F) {c jn s : Nat} {P : Nat → Nat} (v : St) (x : Int32) (J : Int32 → Int32 → St → Option (Int32 × St)) (hc4 : c ≤ 4) (hj3 : jn ≤ 3) (hj0 : 0 < jn) (hPg : PgOK c jn P) (hM : PgM 0 P v) (hE : MEnv 0 0 0 v) (h0 : v.1 0 = nI c) (hj : v.1 1 = nI jn) (hs : s < 2) : ∃ v', lq3 (bX7_share_51 F (nI s) x J) F 0 (-4) 0 v = J (nI (cn (qw P jn s) c)) (asg P jn s x c) v' ∧ eqR v v' := by
  refine lq3_up (n := c) (I := fun i y z w => y = nI (cn (qw P jn s) i) ∧ z = asg P jn s x i ∧ eqR v w) (Q := fun o => ∃ v' : St, o = J (nI (cn (qw P jn s) c)) (asg P jn s x c) v' ∧ eqR v v') ?_ ?_ c 0 F 0 (-4) v (by omega) (by omega) ⟨rfl, rfl, eqR.rf⟩
  · rintro g y z w ⟨rfl, rfl, hw⟩
    refine ⟨w, ?_, hw⟩
    have h1 : w.1 0 = nI c := (hw.1 0 (by omega)).trans h0
    unfold bX7_share_51
    rw [h1, if_pos (yle (Nat.le_refl _) (by omega))]
  · rintro g i y z w hi ⟨rfl, rfl, hw⟩
    have h1 : w.1 0 = nI c := (hw.1 0 (by omega)).trans h0
    have h2 : w.1 1 = nI jn := (hw.1 1 (by omega)).trans hj
    have hM' := hw.pg hM
    have hb := (hPg.2.2.2.1 i hi).1
    obtain ⟨d1, d2, d3, d4⟩ := bN_dn (wn P (stg P 0 (P 46)) i s) jn hj0 hj3
    have hd := dn_lt (wn P (stg P 0 (P 46)) i s) (n := jn) jn 0 (Nat.le_refl _) hj0
    by_cases q : P (24 + i) = 0
    · obtain ⟨t, t1, t2⟩ := M_dn F hF v (jX7_share_129 F (nI s) x (nI (cn (qw P jn s) i)) (asg P jn s x i) (nI i) g) hc4 hj3 hPg hM hE hi hs jn F 0 w (by omega) (Nat.le_refl _) (by omega) hw
      obtain ⟨r, r1, r2⟩ := M_isWon0 F hF (jj := dn (wn P (stg P 0 (P 46)) i s) jn 0) t hc4 hj3 hPg (t2.pg hM) (t2.env hE) hi hd hs
      refine Or.inr ⟨nI (cn (qw P jn s) (i + 1)), asg P jn s x (i + 1), r, ?_, rfl, rfl, t2.tr r2⟩
      unfold bX7_share_51
      rw [h1, if_neg (nle hi (by omega)), at24, gd_i (by omega) (by omega), cl (by omega), hM'.g (by omega), q]
      simp only [jn_e, vl_e, h2]
      have t1' : lq2 (bX7_share_89 F (nI s) (nI i) (jX7_share_129 F (nI s) x (nI (cn (qw P jn s) i)) (asg P jn s x i) (nI i) g)) F 0 (nI jn - 1) w = jX7_share_129 F (nI s) x (nI (cn (qw P jn s) i)) (asg P jn s x i) (nI i) g (nI (dn (wn P (stg P 0 (P 46)) i s) jn 0)) t := t1
      rw [if_pos (show nI 0 = 0 from rfl), t1']
      unfold jX7_share_129
      simp only [jn_e, vl_e, nI_s]
      rw [if_neg (m4_lt (by omega)).2.1, r1, bd_s, cn, asg]
      have eb : bst P jn s i = nI (dn (wn P (stg P 0 (P 46)) i s) jn 0) := by
        unfold bst
        rw [if_pos q]
      have eq : qw P jn s i = wn P (stg P 0 (P 46)) i s (dn (wn P (stg P 0 (P 46)) i s) jn 0) := by
        unfold qw
        rw [decide_eq_true q, Bool.true_and, d3]
      rw [eb, eq]
      by_cases z : wn P (stg P 0 (P 46)) i s (dn (wn P (stg P 0 (P 46)) i s) jn 0) = true
      · rw [if_pos z, if_pos z, if_neg (show ¬ (1 : Int32) = 0 by decide)]
        by_cases o : x - 10 = nI i
        · rw [if_pos o, if_pos o]
        · rw [if_neg o, if_neg o]
      · rw [if_neg z, if_neg z, if_pos rfl, show nI (cn (qw P jn s) i) + 0 = nI (cn (qw P jn s) i + 0) from by rw [L0, nI_add]]
        by_cases o : x - 10 = nI i
        · rw [if_pos o, if_pos o]
        · rw [if_neg o, if_neg o]
    · refine Or.inr ⟨nI (cn (qw P jn s) (i + 1)), asg P jn s x (i + 1), w, ?_, rfl, rfl, hw⟩
      obtain ⟨f, hf⟩ : ∃ f, F = f + 1 := ⟨F - 1, by omega⟩
      have stop : ∀ (J' : Int32 → St → Option (Int32 × St)) (y : Int32), lq2 (bX7_share_89 F (nI s) (nI i) J') F (-4) y w = J' (-4) w := fun J' y => by
        generalize hq : lq2 (bX7_share_89 F (nI s) (nI i) J') F = G
        have hg : G = lq2 (bX7_share_89 F (nI s) (nI i) J') (f + 1) := by rw [← hq]; exact congrArg _ hf
        rw [hg, lq2_s]
        unfold bX7_share_89
        by_cases o : y < 0
        · rw [if_pos o]
        · rw [if_neg o, if_pos rfl]
      unfold bX7_share_51
      rw [h1, if_neg (nle hi (by omega)), at24, gd_i (by omega) (by omega), cl (by omega), hM'.g (by omega)]
      simp only [jn_e, vl_e]
      rw [if_neg (n0f q (by omega)), stop]
      unfold jX7_share_129
      simp only [jn_e, vl_e, nI_s, if_true]
      rw [cn, asg]
      have eb : bst P jn s i = -4 := by
        unfold bst
        rw [if_neg q]
      have eq : qw P jn s i = false := by
        unfold qw
        rw [decide_eq_false q, Bool.false_and]
      rw [eb, eq, if_neg (show ¬ false = true by decide), show nI (cn (qw P jn s) i) + 0 = nI (cn (qw P jn s) i + 0) from by rw [L0, nI_add]]
      by_cases o : x - 10 = nI i
      · rw [if_pos o, if_pos o]
      · rw [if_neg o, if_neg o]
theorem sub10 (x : Int32) : (Int32.toInt64 x - 10).toInt = x.toInt - 10 := by
  have h1 := Int32.le_toInt x
  have h2 := Int32.toInt_lt x
  rw [Int64.toInt_sub, tI64, show (10 : Int64).toInt = 10 from by decide]
  rw [Int.bmod_eq_of_le (by omega) (by omega)]
theorem st_share (F : Nat) (hLF : 200 ≤ F) {u v : St} (h : RR u v) (x0 x1 : Int32) : ∃ (r : Int32) (u' v' : St), pX6_share F x0 x1 u = some (r, u') ∧ pX7_share F x0 x1 v = some (r, v') ∧ RR u' v' := by
  obtain ⟨c, jn, P, ⟨c1, c2, c3, hX, c5, c6, c7⟩, i0, i1, hs, ht, hw, htn, hsh, hc⟩ := id h
  have y1 : u.1 0 = nI c := hX.1
  have y2 : u.1 1 = nI jn := hX.2.1
  unfold pX6_share pX7_share
  rcases two_side x0 with ⟨s, s1, rfl, k, k'⟩ | ⟨k, k'⟩
  · simp only [k, k', bd_s, i10, jn_e, y2, c6]
    by_cases q : x1 = 0
    · simp only [if_pos q]
      by_cases z : jn = 0
      · simp only [z, if_pos (show nI 0 = 0 from rfl)]
        exact ⟨_, _, _, rfl, rfl, h⟩
      · simp only [if_neg (n0f z (show jn < 2147483648 by omega))]
        obtain ⟨u', g1, g2⟩ := X_may F (by omega) u c1 c2 c3 hX s1
        obtain ⟨v', m1, m2⟩ := M_shareL F (by omega) v x1 (jX7_share_181 F x1) c1 c2 (by omega) c3 c7 (menv0 hc) c5 c6 s1
        rw [g1, m1]
        unfold jX7_share_181
        rw [if_pos q, bd_s]
        exact ⟨_, _, _, rfl, rfl, h.eq g2.x m2.m⟩
    · simp only [if_neg q]
      have hb : (nI c - 1).toInt = (c : Int) - 1 := subL (by omega)
      have hX0 : ∀ F, pX0_hasCase F 0 (Int32.toInt64 x1 - 10) u = some (b01 (0 ≤ x1.toInt - 10 ∧ x1.toInt - 10 ≤ (c : Int) - 1), u) := fun F => by
        unfold pX0_hasCase
        rw [show 4 * 0 + 0 = 0 from rfl, y1, X_isIn, bd_s, z01_b01, gd_true, sub10, hb]
        rfl
      have hM0 : ∀ F, pX7_in F (Int32.toInt64 x1) 10 (Int32.toInt64 (9 + v.1 0)) v = some (b01 (10 ≤ x1.toInt ∧ x1.toInt ≤ 9 + (c : Int)), v) := fun F => by
        rw [c5, L9, nI_add, M_in, tI64, tI64, tI (by omega), show (10 : Int64).toInt = 10 from by decide]
        congr 2
      rw [hX0, hM0, bd_s, bd_s]
      by_cases o : 10 ≤ x1.toInt ∧ x1.toInt ≤ 9 + (c : Int)
      · rw [b01_t o, b01_t (show 0 ≤ x1.toInt - 10 ∧ x1.toInt - 10 ≤ (c : Int) - 1 by omega), i10, i10, y2, c6]
        obtain ⟨n, n1, n2, rfl⟩ := nI_in2 (x := x1) (lo := 10) (hi := 9 + c) ⟨by omega, by omega⟩ (by omega)
        obtain ⟨a, rfl⟩ : ∃ a, n = 10 + a := ⟨n - 10, by omega⟩
        by_cases z : jn = 0
        · rw [z, if_pos (show nI 0 = 0 from rfl), if_pos (show nI 0 = 0 from rfl)]
          exact ⟨_, _, _, rfl, rfl, h⟩
        · rw [if_neg (n0f z (by omega)), if_neg (n0f z (by omega)), show nI (10 + a) - 10 = nI a from by rw [L10, subI (by omega), show 10 + a - 10 = a by omega]]
          obtain ⟨u', g1, g2⟩ := X_best F (by omega) (a := a) u c1 c2 (by omega) c3 hX (by omega) s1
          obtain ⟨v', m1, m2⟩ := M_shareL F (by omega) v (nI (10 + a)) (jX7_share_181 F (nI (10 + a))) c1 c2 (by omega) c3 c7 (menv0 hc) c5 c6 s1
          rw [g1, m1]
          unfold jX7_share_181
          rw [if_neg q, bd_s, asg_e P jn s c (by omega) (by omega)]
          exact ⟨_, _, _, rfl, rfl, h.eq g2.x m2.m⟩
      · rw [b01_f o, b01_f (show ¬ (0 ≤ x1.toInt - 10 ∧ x1.toInt - 10 ≤ (c : Int) - 1) by omega), i00, i00]
        exact ⟨_, _, _, rfl, rfl, h⟩
  · simp only [k, k', bd_s, i00]
    exact ⟨_, _, _, rfl, rfl, h⟩
theorem step_share {u v : St} (h : RR u v) (x0 x1 : Int32) : ∃ (r : Int32) (u' v' : St), pX6_share LF x0 x1 u = some (r, u') ∧ pX7_share LF x0 x1 v = some (r, v') ∧ RR u' v' := st_share LF (by decide) h x0 x1
end
section
/-! PURE: by the docket -/
def dkV (P S : Nat → Nat) : Nat → Nat → Nat
  | 0 => fun k => P (24 + k)
  | i + 1 => if dkV P S i (P (56 + i)) = 0 then pu (dkV P S i) (P (56 + i)) (hP P S (P (56 + i)) (P (62 + i))).1 else dkV P S i
def dkF (P S : Nat → Nat) : Nat → Int32
  | 0 => -4
  | i + 1 => if dkV P S i (P (56 + i)) = 0 then dkF P S i else if dkF P S i = -4 then nI i else dkF P S i
def dkM (P S : Nat → Nat) : Nat → Nat
  | 0 => 0
  | i + 1 => if dkV P S i (P (56 + i)) = 0 then dkM P S i + ((hP P S (P (56 + i)) (P (62 + i))).2.1 + 1) else dkM P S i
theorem dkV_bd {c jn : Nat} {P : Nat → Nat} (h : PgOK c jn P) (S : Nat → Nat) : ∀ n, n ≤ P 55 → ∀ k, k < c → dkV P S n k ≤ 3
  | 0, _, k, hk => (h.2.2.2.1 k hk).1
  | n + 1, hn, k, hk => by
    obtain ⟨d1, d2⟩ := h.2.2.2.2.2.2 n (by omega)
    have hb := hP_bd h S d1 d2
    have ih := dkV_bd h S n (by omega) k hk
    unfold dkV
    split
    · unfold pu
      split
      · exact hb.2.1
      · exact ih
    · exact ih
/-! the class's round -/
def eqG (u u' : St) : Prop := (∀ k, (k < 24 ∨ 28 < k) → u'.1 k = u.1 k) ∧ ∀ k, (k < 55 ∨ 59 < k) → u'.2 k = u.2 k
theorem eqG.rf {u : St} : eqG u u := ⟨fun _ _ => rfl, fun _ _ => rfl⟩
theorem eqG.tr {u w x : St} (h : eqG u w) (h2 : eqG w x) : eqG u x := ⟨fun k q => (h2.1 k q).trans (h.1 k q), fun k q => (h2.2 k q).trans (h.2 k q)⟩
theorem eqG.x {u u' : St} (h : eqG u u') : eqX u u' := ⟨fun k q => h.1 k (by omega), fun k q => h.2 k (by omega)⟩
theorem X_docket (F : Nat) (hF : 80 ≤ F) {c jn aw : Nat} {P : Nat → Nat} (u : St) (hc4 : c ≤ 4) (hj3 : jn ≤ 3) (hPg : PgOK c jn P) (hX : CtX 0 c jn P u) (ha : aw < 16) : ∃ u', pX3_goByDocket F (nI aw) u = some ((), u') ∧ (∀ k, k < c → u'.2 59 k = nI (dkV P (stg P aw (P 46)) (P 55) k)) ∧ u'.1 27 = dkF P (stg P aw (P 46)) (P 55) ∧ u'.1 28 = nI (dkM P (stg P aw (P 46)) (P 55)) ∧ eqG u u' := by
  obtain ⟨w0, g1, g2, g3, g4⟩ := X_row F (a := 3) (b := 59) (n := 4) u rfl rfl (by omega)
  have h55 := hPg.2.1
  unfold pX3_goByDocket
  rw [g1, bd_s, vl_e, vl_e]
  refine lq1_up (n := P 55) (I := fun i w => (∀ k, k < c → w.2 59 k = nI (dkV P (stg P aw (P 46)) i k)) ∧ w.1 27 = dkF P (stg P aw (P 46)) i ∧ w.1 28 = nI (dkM P (stg P aw (P 46)) i) ∧ eqG u w) (Q := fun o => ∃ u' : St, o = some ((), u') ∧ (∀ k, k < c → u'.2 59 k = nI (dkV P (stg P aw (P 46)) (P 55) k)) ∧ u'.1 27 = dkF P (stg P aw (P 46)) (P 55) ∧ u'.1 28 = nI (dkM P (stg P aw (P 46)) (P 55)) ∧ eqG u u') ?_ ?_ (P 55) 0 F _ (by omega) (by omega) ⟨fun k hk => ?_, rfl, rfl, fun k hk => ?_, fun k hk => g3 k (by omega)⟩
  · rintro g w ⟨h1, h2, h3, h4⟩
    refine ⟨w, ?_, h1, h2, h3, h4⟩
    have e3 : w.1 3 = nI (P 55) := (h4.1 3 (by omega)).trans hX.2.2.2.1
    unfold bX3_goByDocket_25
    rw [e3, if_pos (yle (Nat.le_refl _) (by omega))]
  · rintro g i w hi ⟨h1, h2, h3, h4⟩
    have hX' := hX.eq (by omega) h4.x
    have e3 : w.1 3 = nI (P 55) := hX'.2.2.2.1
    obtain ⟨d1, d2⟩ := hPg.2.2.2.2.2.2 i hi
    obtain ⟨e11, e12⟩ := hX'.2.2.2.2.2.2.2.2 i hi
    have e11' : w.2 11 i = nI (P (56 + i)) := e11
    have e12' : w.2 12 i = nI (P (62 + i)) := e12
    have e59 := h1 _ d1
    have hv := dkV_bd hPg (stg P aw (P 46)) i (by omega) _ d1
    by_cases q : dkV P (stg P aw (P 46)) i (P (56 + i)) = 0
    · obtain ⟨y, y1, y2, y3⟩ := X_prepP F (by omega) w hc4 hj3 hPg hX' d1 d2 ha
      obtain ⟨t, t1, ⟨-, -, t2⟩, t3⟩ := X_heldP F (by omega) y hPg d1 d2 (fun m => stg_lt hPg aw m) y2
      have e4 := y3.tr t3
      refine Or.inr ⟨stf (sta t 59 (nI (P (56 + i))) (nI (hP P (stg P aw (P 46)) (P (56 + i)) (P (62 + i))).1)) 28 (nI (dkM P (stg P aw (P 46)) i + ((hP P (stg P aw (P 46)) (P (56 + i)) (P (62 + i))).2.1 + 1))), ?_, fun k hk => ?_, ?_, ?_, fun k hk => ?_, fun k hk => ?_⟩
      · unfold bX3_goByDocket_25
        rw [e3, if_neg (nle hi (by omega)), gd_i (by omega) (by omega), vl_e, cl (by omega), e11', gd_i (by omega) (by omega), cl (by omega), e59, q]
        simp only [jn_e, nI_s]
        rw [if_pos (show nI 0 = 0 from rfl), gd_i (by omega) (by omega), e12', y1]
        simp only [bd_s]
        rw [t1, bd_s, gd_i (by omega) (by omega), vl_e, vl_e, sta_1, e4.1 28 (by omega), h3, t2, nI_s, nI_add]
      · show (sta t 59 (nI (P (56 + i))) (nI (hP P (stg P aw (P 46)) (P (56 + i)) (P (62 + i))).1)).2 59 k = _
        rw [sta_h _ _ (by omega), dkV, if_pos q]
        exact puI (by rw [e4.2 59 (by omega)]; exact h1 k hk) _ Iff.rfl
      · rw [stf_1, if_neg (by omega), sta_1, e4.1 27 (by omega), h2, dkF, if_pos q]
      · rw [stf_1, if_pos rfl, dkM, if_pos q]
      · rw [stf_1, if_neg (by omega), sta_1, e4.1 k (by omega), h4.1 k hk]
      · rw [stf_2, sta_m _ _ _ (by omega), e4.2 k (by omega), h4.2 k hk]
    · by_cases z : dkF P (stg P aw (P 46)) i = -4
      · refine Or.inr ⟨stf w 27 (nI i), ?_, fun k hk => ?_, ?_, ?_, fun k hk => ?_, fun k hk => ?_⟩
        · unfold bX3_goByDocket_25
          rw [e3, if_neg (nle hi (by omega)), gd_i (by omega) (by omega), vl_e, cl (by omega), e11', gd_i (by omega) (by omega), cl (by omega), e59]
          simp only [jn_e, nI_s]
          rw [if_neg (n0f q (by omega)), h2, if_pos z, vl_e]
        · rw [stf_2, dkV, if_neg q]; exact h1 k hk
        · rw [stf_1, if_pos rfl, dkF, if_neg q, if_pos z]
        · rw [stf_1, if_neg (by omega), dkM, if_neg q]; exact h3
        · rw [stf_1, if_neg (by omega)]; exact h4.1 k hk
        · rw [stf_2]; exact h4.2 k hk
      · refine Or.inr ⟨w, ?_, fun k hk => ?_, ?_, ?_, h4⟩
        · unfold bX3_goByDocket_25
          rw [e3, if_neg (nle hi (by omega)), gd_i (by omega) (by omega), vl_e, cl (by omega), e11', gd_i (by omega) (by omega), cl (by omega), e59]
          simp only [jn_e, nI_s]
          rw [if_neg (n0f q (by omega)), h2, if_neg z]
        · rw [dkV, if_neg q]; exact h1 k hk
        · rw [dkF, if_neg q, if_neg z]; exact h2
        · rw [dkM, if_neg q]; exact h3
  · show w0.2 59 k = _
    rw [g4 k (by omega)]
    exact (hX.2.2.2.2.2.1 k hk).1
  · rw [stf_1, if_neg (by omega), stf_1, if_neg (by omega), g2]
/-! the reference's round -/
theorem hP_c {P Q S : Nat → Nat} {a b : Nat} (h0 : P (2 * a) = Q (2 * a)) (h1 : P (2 * a + 1) = Q (2 * a + 1)) (h2 : P (8 + 2 * a) = Q (8 + 2 * a)) (h3 : P (8 + (2 * a + 1)) = Q (8 + (2 * a + 1))) (h4 : P (16 + 2 * a) = Q (16 + 2 * a)) (h5 : P (16 + (2 * a + 1)) = Q (16 + (2 * a + 1))) (h6 : P (40 + b) = Q (40 + b)) (h7 : P (43 + b) = Q (43 + b)) : hP P S a b = hP Q S a b := by
  unfold hP
  rw [h0, h1, h2, h3, h4, h5, h6, h7]
theorem stg_c {P Q : Nat → Nat} (h : ∀ k, 46 ≤ k → P k = Q k) (aw : Nat) : ∀ n m, stg P aw n m = stg Q aw n m
  | 0, m => rfl
  | n + 1, m => by
    unfold stg
    rw [stg_c h aw n m, h (47 + n) (by omega), h (51 + n) (by omega)]
theorem stm_a (P : Nat → Nat) (aw mm n : Nat) : stm P aw mm 0 n = stg P aw n := by
  funext m
  unfold stm
  split <;> simp
theorem M_judges2 (F : Nat) (hF : 80 ≤ F) {p c jn aw mm ms cc jj : Nat} {P : Nat → Nat} (v : St) (hp : p < 6) (hc4 : c ≤ 4) (hj3 : jn ≤ 3) (hPg : PgOK c jn P) (hM : PgM p P v) (hE : MEnv aw mm ms v) (hc : cc < c) (hj : jj < jn) :
    ∃ v', pX7_judgesOn F (nI (68 * p)) (nI cc) (nI jj) v = some (nI (hP P (stm P aw mm ms (P 46)) cc jj).1, v') ∧ PgM p (pgH P cc jj (hP P (stm P aw mm ms (P 46)) cc jj).1 (hP P (stm P aw mm ms (P 46)) cc jj).2.1 (hP P (stm P aw mm ms (P 46)) cc jj).2.2.1 (hP P (stm P aw mm ms (P 46)) cc jj).2.2.2) v' ∧ v'.1 18 = nI (hP P (stm P aw mm ms (P 46)) cc jj).2.1 ∧ (∀ k, k ≠ 18 → v'.1 k = v.1 k) ∧ (∀ k, k ≠ 0 → v'.2 k = v.2 k) ∧ (∀ i, (i < 68 * p ∨ 68 * p + 68 ≤ i) → v'.2 0 i = v.2 0 i) := by
  obtain ⟨w, g1, -, g3, -⟩ := M_hears F hF v hp hc4 hj3 hPg hM hE hc hj
  obtain ⟨v', k1, k2, k3, k4, k5⟩ := M_judges F hF v hp hc4 hj3 hPg hM hE hc hj
  refine ⟨v', k1, k2, ?_, k3, k4, k5⟩
  generalize hP P (stm P aw mm ms (P 46)) cc jj = H at *
  unfold pX7_judgesOn at k1
  rw [g1, bd_s] at k1
  simp (disch := omega) only [L24, L32, L36, L1, nI_add, gd_i, vl_e, sta_1, g3] at k1
  have e := Option.some.inj k1
  have e2 : _ = v' := congrArg Prod.snd e
  rw [← e2]
  exact g3
/-- the page tried, while the docket goes -/
def DQ (c jn : Nat) (P V Q : Nat → Nat) : Prop := PgOK c jn Q ∧ (∀ k, k < c → Q (24 + k) = V k) ∧ (∀ k, k < c → V k = 0 → Q (8 + 2 * k) = P (8 + 2 * k) ∧ Q (8 + (2 * k + 1)) = P (8 + (2 * k + 1))) ∧ (∀ f, f < 2 * c → Q f = P f ∧ Q (16 + f) = P (16 + f)) ∧ (∀ j, j < jn → Q (40 + j) = P (40 + j) ∧ Q (43 + j) = P (43 + j)) ∧ ∀ k, 46 ≤ k → Q k = P k
def eqD (v v' : St) : Prop := (∀ k, (k < 18 ∨ 20 < k) → v'.1 k = v.1 k) ∧ (∀ k, k ≠ 0 → v'.2 k = v.2 k) ∧ ∀ i, (i < 272 ∨ 340 ≤ i) → v'.2 0 i = v.2 0 i
theorem eqD.m {v v' : St} (h : eqD v v') : eqM v v' := ⟨fun i hi => h.2.2 i (by omega), ⟨h.1 _ (by omega), h.1 _ (by omega), h.1 _ (by omega), h.1 _ (by omega), h.1 _ (by omega), h.1 _ (by omega), h.1 _ (by omega), h.1 _ (by omega)⟩, fun k hk => h.2.1 k (by omega)⟩
theorem eqD.tr {u w x : St} (h : eqD u w) (h2 : eqD w x) : eqD u x := ⟨fun k q => (h2.1 k q).trans (h.1 k q), fun k q => (h2.2.1 k q).trans (h.2.1 k q), fun k q => (h2.2.2 k q).trans (h.2.2 k q)⟩
theorem eqD.pg {v v' : St} {P : Nat → Nat} {p : Nat} (h : eqD v v') (hp : p < 6) (hp4 : p ≠ 4) (hM : PgM p P v) : PgM p P v' := fun k hk => by
  rw [h.2.2 _ (by omega)]
  exact hM k hk
theorem eqD.env {v v' : St} {aw mm ms : Nat} (h : eqD v v') (hE : MEnv aw mm ms v) : MEnv aw mm ms v' := by
  obtain ⟨e1, e2, e3, e4, e5, e6, e7⟩ := hE
  refine ⟨e1, (h.1 15 (by omega)).trans e2, ?_, (h.1 17 (by omega)).trans e4, e5, e6, (h.2.1 1 (by omega)).trans e7⟩
  rw [h.1 16 (by omega)]
  exact e3
theorem DQ.s {c jn i : Nat} {P V Q S : Nat → Nat} (h : DQ c jn P V Q) (hc4 : c ≤ 4) (hj3 : jn ≤ 3) (hPg : PgOK c jn P) {a b : Nat} (ha : a < c) (hb : b < jn) : DQ c jn P (pu V a (hP P S a b).1) (pgH Q a b (hP P S a b).1 (hP P S a b).2.1 (hP P S a b).2.2.1 (hP P S a b).2.2.2) := by
  obtain ⟨q1, q2, q3, q4, q5, q6⟩ := h
  obtain ⟨b1, b2, b3, b4, b5⟩ := hP_bd hPg S ha hb
  generalize hP P S a b = H at *
  refine ⟨pgH_ok q1 hc4 hj3 ha hb b2 (by omega) b4 b5, fun k hk => ?_, fun k hk hv => ?_, fun f hf => ?_, fun j hj => ?_, fun k hk => ?_⟩
  · unfold pgH lw pu
    by_cases z : k = a
    · rw [if_pos (by omega), if_pos z]
    · rw [if_neg (by omega), if_neg (by omega), if_neg (by omega), if_neg (by omega), if_neg (by omega), if_neg z]
      exact q2 k hk
  · have z : k ≠ a := fun z => by
      rw [z, pu_s] at hv
      omega
    rw [pu_n _ z] at hv
    rw [pgH_o Q (by omega) (by omega) (by omega) (by omega) (by omega), pgH_o Q (by omega) (by omega) (by omega) (by omega) (by omega)]
    exact q3 k hk hv
  · rw [pgH_o Q (by omega) (by omega) (by omega) (by omega) (by omega), pgH_o Q (by omega) (by omega) (by omega) (by omega) (by omega)]
    exact q4 f hf
  · rw [pgH_o Q (by omega) (by omega) (by omega) (by omega) (by omega), pgH_o Q (by omega) (by omega) (by omega) (by omega) (by omega)]
    exact q5 j hj
  · rw [pgH_o Q (by omega) (by omega) (by omega) (by omega) (by omega)]
    exact q6 k hk
theorem M_docket (F : Nat) (hF : 80 ≤ F) {p c jn aw mm : Nat} {P : Nat → Nat} (v : St) (hp : p = 0 ∨ p = 5) (hc4 : c ≤ 4) (hj3 : jn ≤ 3) (hPg : PgOK c jn P) (hM : PgM p P v) (hE : MEnv aw mm 0 v) : ∃ v', pX7_docketGoes F (nI (68 * p)) v = some ((), v') ∧ (∃ Q, PgM 4 Q v' ∧ ∀ k, k < c → Q (24 + k) = dkV P (stg P aw (P 46)) (P 55) k) ∧ v'.1 19 = dkF P (stg P aw (P 46)) (P 55) ∧ v'.1 20 = nI (dkM P (stg P aw (P 46)) (P 55)) ∧ eqD v v' := by
  obtain ⟨w0, g1, g2, g3, g4, g5⟩ := M_copies F hF (p := p) (q := 4) (by omega) (by omega) (by omega) v
  have h55 := hPg.2.1
  unfold pX7_docketGoes
  rw [show (272 : Int32) = nI (68 * 4) from rfl, g1, bd_s, vl_e, vl_e]
  refine lq1_up (n := P 55) (I := fun i w => (∃ Q, PgM 4 Q w ∧ DQ c jn P (dkV P (stg P aw (P 46)) i) Q) ∧ w.1 19 = dkF P (stg P aw (P 46)) i ∧ w.1 20 = nI (dkM P (stg P aw (P 46)) i) ∧ eqD v w) (Q := fun o => ∃ v' : St, o = some ((), v') ∧ (∃ Q, PgM 4 Q v' ∧ ∀ k, k < c → Q (24 + k) = dkV P (stg P aw (P 46)) (P 55) k) ∧ v'.1 19 = dkF P (stg P aw (P 46)) (P 55) ∧ v'.1 20 = nI (dkM P (stg P aw (P 46)) (P 55)) ∧ eqD v v') ?_ ?_ (P 55) 0 F _ (by omega) (by omega) ⟨⟨P, fun k hk => (g4 k hk).trans (hM k hk), hPg, fun k hk => rfl, fun k hk hv => ⟨rfl, rfl⟩, fun f hf => ⟨rfl, rfl⟩, fun j hj => ⟨rfl, rfl⟩, fun k hk => rfl⟩, rfl, rfl, fun k hk => ?_, fun k hk => g3 k hk, fun i hi => g5 i (by omega)⟩
  · rintro g w ⟨⟨Q, m1, m2⟩, h2, h3, h4⟩
    refine ⟨w, ?_, ⟨Q, m1, m2.2.1⟩, h2, h3, h4⟩
    have hMw := h4.pg (show p < 6 by omega) (by omega) hM
    unfold bX7_docketGoes_21
    rw [L55, nI_add, gd_i (by omega) (by omega), cl (by omega), hMw 55 (by omega), if_pos (yle (Nat.le_refl _) (by omega))]
  · rintro g i w hi ⟨⟨Q, m1, m2⟩, h2, h3, h4⟩
    have hMw := h4.pg (show p < 6 by omega) (by omega) hM
    obtain ⟨d1, d2⟩ := hPg.2.2.2.2.2.2 i hi
    have hv := dkV_bd hPg (stg P aw (P 46)) i (by omega) _ d1
    have eQ : w.2 0 (68 * 4 + (24 + P (56 + i))) = nI (dkV P (stg P aw (P 46)) i (P (56 + i))) := by rw [m1 _ (by omega), m2.2.1 _ d1]
    have head : ∀ r, (gd (inb (nI (68 * p) + 55) 408) (if w.2 0 (Int32.toNatClampNeg (nI (68 * p) + 55)) ≤ nI i then some ((), w) else r) : Option (Unit × St)) = r := fun r => by
      rw [L55, nI_add, gd_i (by omega) (by omega), cl (by omega), hMw 55 (by omega), if_neg (nle hi (by omega))]
    have c56 : w.2 0 (Int32.toNatClampNeg ((nI (68 * p) + 56) + nI i)) = nI (P (56 + i)) := by
      rw [L56, nI_add, nI_add, cl (by omega), show 68 * p + 56 + i = 68 * p + (56 + i) by omega, hMw _ (by omega)]
    have c62 : w.2 0 (Int32.toNatClampNeg ((nI (68 * p) + 62) + nI i)) = nI (P (62 + i)) := by
      rw [L62, nI_add, nI_add, cl (by omega), show 68 * p + 62 + i = 68 * p + (62 + i) by omega, hMw _ (by omega)]
    have b56 : inb ((nI (68 * p) + 56) + nI i) 408 = true := by
      rw [L56, nI_add, nI_add]; exact inb_nI (by omega) (by omega)
    have b62 : inb ((nI (68 * p) + 62) + nI i) 408 = true := by
      rw [L62, nI_add, nI_add]; exact inb_nI (by omega) (by omega)
    have b296 : inb ((296 : Int32) + nI (P (56 + i))) 408 = true := by
      rw [show (296 : Int32) = nI 296 from rfl, nI_add]; exact inb_nI (by omega) (by omega)
    have c296 : w.2 0 (Int32.toNatClampNeg ((296 : Int32) + nI (P (56 + i)))) = nI (dkV P (stg P aw (P 46)) i (P (56 + i))) := by
      rw [show (296 : Int32) = nI 296 from rfl, nI_add, cl (by omega), show 296 + P (56 + i) = 68 * 4 + (24 + P (56 + i)) by omega, eQ]
    by_cases q : dkV P (stg P aw (P 46)) i (P (56 + i)) = 0
    · obtain ⟨t, t1, t2, t3, t4, t5, t6⟩ := M_judges2 F hF (p := 4) w (by omega) hc4 hj3 m2.1 m1 (h4.env hE) d1 d2
      have es : stm Q aw mm 0 (Q 46) = stg P aw (P 46) := by
        rw [stm_a, m2.2.2.2.2.2 46 (by omega)]
        funext m
        exact stg_c (fun k hk => m2.2.2.2.2.2 k hk) aw _ m
      obtain ⟨l0, l1⟩ := m2.2.2.1 _ d1 q
      obtain ⟨k0, k2⟩ := m2.2.2.2.1 (2 * P (56 + i)) (by omega)
      obtain ⟨k1, k3⟩ := m2.2.2.2.1 (2 * P (56 + i) + 1) (by omega)
      obtain ⟨k4, k5⟩ := m2.2.2.2.2.1 (P (62 + i)) d2
      have eH : hP Q (stm Q aw mm 0 (Q 46)) (P (56 + i)) (P (62 + i)) = hP P (stg P aw (P 46)) (P (56 + i)) (P (62 + i)) := by
        rw [es]
        exact hP_c k0 k1 l0 l1 k2 k3 k4 k5
      rw [eH] at t1 t2 t3
      refine Or.inr ⟨stf t 20 (nI (dkM P (stg P aw (P 46)) i + ((hP P (stg P aw (P 46)) (P (56 + i)) (P (62 + i))).2.1 + 1))), ?_, ⟨_, t2, ?_⟩, ?_, ?_, fun k hk => ?_, fun k hk => ?_, fun k hk => ?_⟩
      · unfold bX7_docketGoes_21
        rw [head, b56, gd_true, c56, vl_e, b296, gd_true, c296, q]
        simp only [jn_e]
        rw [if_pos (show nI 0 = 0 from rfl), b62, gd_true, c62, show (272 : Int32) = nI (68 * 4) from rfl, t1, bd_s]
        simp only [vl_e, nI_s]
        rw [t4 20 (by omega), h3, t3, nI_s, nI_add]
      · rw [dkV, if_pos q]
        exact m2.s (i := i) hc4 hj3 hPg d1 d2
      · rw [stf_1, if_neg (by omega), t4 19 (by omega), h2, dkF, if_pos q]
      · rw [stf_1, if_pos rfl, dkM, if_pos q]
      · rw [stf_1, if_neg (by omega), t4 k (by omega), h4.1 k hk]
      · rw [stf_2, t5 k hk, h4.2.1 k hk]
      · rw [stf_2, t6 k (by omega), h4.2.2 k hk]
    · by_cases z : dkF P (stg P aw (P 46)) i = -4
      · refine Or.inr ⟨stf w 19 (nI i), ?_, ⟨Q, m1, ?_⟩, ?_, ?_, fun k hk => ?_, fun k hk => h4.2.1 k hk, fun k hk => h4.2.2 k hk⟩
        · unfold bX7_docketGoes_21
          rw [head, b56, gd_true, c56, vl_e, b296, gd_true, c296]
          simp only [jn_e, vl_e, nI_s]
          rw [if_neg (n0f q (by omega)), h2, if_pos z]
        · rw [dkV, if_neg q]; exact m2
        · rw [stf_1, if_pos rfl, dkF, if_neg q, if_pos z]
        · rw [stf_1, if_neg (by omega), dkM, if_neg q]; exact h3
        · rw [stf_1, if_neg (by omega)]; exact h4.1 k hk
      · refine Or.inr ⟨stf w 19 (dkF P (stg P aw (P 46)) i), ?_, ⟨Q, m1, ?_⟩, ?_, ?_, fun k hk => ?_, fun k hk => h4.2.1 k hk, fun k hk => h4.2.2 k hk⟩
        · unfold bX7_docketGoes_21
          rw [head, b56, gd_true, c56, vl_e, b296, gd_true, c296]
          simp only [jn_e, vl_e, nI_s]
          rw [if_neg (n0f q (by omega)), h2, if_neg z]
        · rw [dkV, if_neg q]; exact m2
        · rw [stf_1, if_pos rfl, dkF, if_neg q, if_neg z]
        · rw [stf_1, if_neg (by omega), dkM, if_neg q]; exact h3
        · rw [stf_1, if_neg (by omega)]; exact h4.1 k hk
  · rw [stf_1, if_neg (by omega), stf_1, if_neg (by omega), g2]
/-! runs, ahead -/
theorem st_runs (F : Nat) (hLF : 200 ≤ F) {u v : St} (h : RR u v) (x0 : Int32) : ∃ (r : Int32) (u' v' : St), pX6_runs F x0 u = some (r, u') ∧ pX7_runs F x0 v = some (r, v') ∧ RR u' v' := by
  obtain ⟨c, jn, P, ⟨c1, c2, c3, hX, c5, c6, c7⟩, i0, i1, hs, ht, hw, htn, hsh, hc⟩ := id h
  unfold pX6_runs pX7_runs
  rcases rng x0 (a0 := 0) (b0 := 4) (a1 := 0) (b1 := 4) 0 4 rfl rfl rfl rfl (by omega) (by omega) with ⟨d, d1, d2, rfl, e, e'⟩ | ⟨-, e, e'⟩
  · obtain ⟨u', g1, g2, g3, g4, g5⟩ := X_docket F (by omega) (aw := 0) u c1 c2 c3 hX (by omega)
    obtain ⟨v', m1, ⟨Q, m2, m3⟩, m4, m5, m6⟩ := M_docket F (by omega) (p := 0) v (Or.inl rfl) c1 c2 c3 c7 (menv0 hc)
    have hR : RR u' v' := h.eq g5.x m6.m
    have g1' : pX3_goByDocket F 0 u = some ((), u') := g1
    have m1' : pX7_docketGoes F 0 v = some ((), v') := m1
    rw [e, e', bd_s, bd_s, i10, i10, g1', m1', bd_s, bd_s]
    by_cases q3 : d = 3
    · rw [if_pos (show nI d = 3 by rw [q3]; rfl), if_pos (show (3 : Int32) ≤ nI d by rw [q3]; decide), if_pos (show nI d = 3 by rw [q3]; rfl), g3, m4]
      exact ⟨_, _, _, rfl, rfl, hR⟩
    · by_cases q4 : d = 4
      · rw [if_neg (show ¬ nI d = 3 by rw [q4]; decide), if_pos (show (3 : Int32) ≤ nI d by rw [q4]; decide), if_neg (show ¬ nI d = 3 by rw [q4]; decide), if_pos (show nI d = 4 by rw [q4]; rfl), g4, m5]
        exact ⟨_, _, _, rfl, rfl, hR⟩
      · have k := X_bits F (by omega) u' (arr := 59) (val := d + 1) (fun i => dkV P (stg P 0 (P 46)) (P 55) i) (show c ≤ 4 by omega) (by omega) (show 4 < 1000 by omega) (by omega) (fun i hi => ⟨by have := dkV_bd c3 (stg P 0 (P 46)) (P 55) (Nat.le_refl _) i hi; show dkV P (stg P 0 (P 46)) (P 55) i < 1000; omega, g2 i hi⟩)
        have km := M_won F (by omega) v' (p := 4) (val := d + 1) (by omega) c1 ((m6.1 0 (by omega)).trans c5) m2 (by omega) (fun i hi => by rw [m3 i hi]; have := dkV_bd c3 (stg P 0 (P 46)) (P 55) (Nat.le_refl _) i hi; omega)
        have y1 : u'.1 0 = nI c := (g5.1 0 (by omega)).trans hX.1
        rw [if_neg (show ¬ nI d = 3 from by rw [L3]; exact neI q3 (by omega) (by omega)), if_neg (show ¬ nI d = 4 from by rw [L4]; exact neI q4 (by omega) (by omega)), if_neg (show ¬ (3 : Int32) ≤ nI d from by rw [L3]; exact nle (by omega) (by omega)), nI_s, y1, k, bd_s, show (272 : Int32) = nI (68 * 4) from rfl, km, bd_s]
        refine ⟨_, _, _, rfl, ?_, hR⟩
        rw [bI_c c (fun i hi => by show decide (Q (24 + i) = d + 1) = decide (dkV P (stg P 0 (P 46)) (P 55) i = d + 1); rw [m3 i hi])]
  · rw [e, e', bd_s, bd_s, i00, i00]
    exact ⟨_, _, _, rfl, rfl, h⟩
theorem step_runs {u v : St} (h : RR u v) (x0 : Int32) : ∃ (r : Int32) (u' v' : St), pX6_runs LF x0 u = some (r, u') ∧ pX7_runs LF x0 v = some (r, v') ∧ RR u' v' := st_runs LF (by decide) h x0
theorem st_ahead (F : Nat) (hLF : 200 ≤ F) {u v : St} (h : RR u v) (x0 : Int32) : ∃ (r : Int32) (u' v' : St), pX6_ahead F x0 u = some (r, u') ∧ pX7_ahead F x0 v = some (r, v') ∧ RR u' v' := by
  obtain ⟨c, jn, P, ⟨c1, c2, c3, hX, c5, c6, c7⟩, i0, i1, hs, ht, hw, htn, hsh, hc⟩ := id h
  unfold pX6_ahead pX7_ahead
  rcases two_case x0 c1 hX.1 c5 with ⟨a, a1, rfl, e, e'⟩ | ⟨e, e'⟩
  · obtain ⟨u', g1, g2, g3, g4, g5⟩ := X_docket F (by omega) (aw := 0) u c1 c2 c3 hX (by omega)
    obtain ⟨v', m1, ⟨Q, m2, m3⟩, m4, m5, m6⟩ := M_docket F (by omega) (p := 0) v (Or.inl rfl) c1 c2 c3 c7 (menv0 hc)
    have g1' : pX3_goByDocket F 0 u = some ((), u') := g1
    have m1' : pX7_docketGoes F 0 v = some ((), v') := m1
    rw [e, e', bd_s, bd_s, i10, i10, g1', m1', bd_s, bd_s, gd_i (by omega) (by omega), cl (by omega), g2 a a1, show (296 : Int32) = nI 296 from rfl, nI_add, gd_i (by omega) (by omega), cl (by omega), show 296 + a = 68 * 4 + (24 + a) by omega, m2 _ (by omega), m3 a a1]
    exact ⟨_, _, _, rfl, rfl, h.eq g5.x m6.m⟩
  · rw [e, e', bd_s, bd_s, i00, i00]
    exact ⟨_, _, _, rfl, rfl, h⟩
theorem step_ahead {u v : St} (h : RR u v) (x0 : Int32) : ∃ (r : Int32) (u' v' : St), pX6_ahead LF x0 u = some (r, u') ∧ pX7_ahead LF x0 v = some (r, v') ∧ RR u' v' := st_ahead LF (by decide) h x0
end
section
/-! PURE: swap -/
def swP (P : Nat → Nat) (p q : Nat) : Nat → Nat := pu (pu P (62 + p) (P (62 + q))) (62 + q) (P (62 + p))
theorem swP_lo (P : Nat → Nat) (p q : Nat) {k : Nat} (hk : k < 62) : swP P p q k = P k := by
  unfold swP
  rw [pu_n _ (by omega), pu_n _ (by omega)]
theorem swP_ok {c jn p q : Nat} {P : Nat → Nat} (h : PgOK c jn P) (hc : c ≤ 4) (hj : jn ≤ 3) (hp : p < P 55) (hq : q < P 55) : PgOK c jn (swP P p q) := by
  obtain ⟨p1, p2, p3, p4, p5, p6, p7⟩ := h
  have jp := p7 p hp
  have jq := p7 q hq
  refine ⟨by rw [swP_lo P p q (by omega)]; exact p1, by rw [swP_lo P p q (by omega)]; exact p2, fun f hf => ?_, fun f hf => ?_, fun f hf => ?_, fun f hf => ?_, fun f hf => ?_⟩
  · rw [swP_lo P p q (by omega), swP_lo P p q (by omega), swP_lo P p q (by omega)]; exact p3 f hf
  · rw [swP_lo P p q (by omega), swP_lo P p q (by omega), swP_lo P p q (by omega), swP_lo P p q (by omega)]; exact p4 f hf
  · rw [swP_lo P p q (by omega), swP_lo P p q (by omega)]; exact p5 f hf
  · rw [swP_lo P p q (by omega)] at hf
    rw [swP_lo P p q (by omega), swP_lo P p q (by omega)]; exact p6 f hf
  · rw [swP_lo P p q (by omega)] at hf
    have jf := p7 f hf
    rw [swP_lo P p q (by omega)]
    refine ⟨jf.1, ?_⟩
    unfold swP pu
    split
    · exact jp.2
    · split
      · exact jq.2
      · exact jf.2
/-- in how many cases a side wins by the docket -/
def wd (P : Nat → Nat) (aw s c : Nat) : Nat := cn (fun k => decide (dkV P (stg P aw (P 46)) (P 55) k = s + 1)) c
theorem X_wonD (F : Nat) (hF : 80 ≤ F) {c jn aw s : Nat} {P : Nat → Nat} (u : St) (hc4 : c ≤ 4) (hj3 : jn ≤ 3) (hPg : PgOK c jn P) (hX : CtX 0 c jn P u) (ha : aw < 16) (hs : s < 2) : ∃ u', pX6_wonByDocket F (nI s) (nI aw) u = some (nI (wd P aw s c), u') ∧ eqG u u' := by
  obtain ⟨u', g1, g2, -, -, g5⟩ := X_docket F hF u hc4 hj3 hPg hX ha
  have y1 : u'.1 0 = nI c := (g5.1 0 (by omega)).trans hX.1
  have k := X_bits F hF u' (arr := 59) (val := s + 1) (fun i => dkV P (stg P aw (P 46)) (P 55) i) (show c ≤ 4 by omega) (by omega) (show 4 < 1000 by omega) (by omega) (fun i hi => ⟨by have := dkV_bd hPg (stg P aw (P 46)) (P 55) (Nat.le_refl _) i hi; show dkV P (stg P aw (P 46)) (P 55) i < 1000; omega, g2 i hi⟩)
  refine ⟨u', ?_, g5⟩
  unfold pX6_wonByDocket
  rw [g1, bd_s, y1, nI_s, k, bd_s, X_pop F _ hc4, bd_s]
  rfl
theorem M_wonD (F : Nat) (hF : 80 ≤ F) {p c jn aw mm s : Nat} {P : Nat → Nat} (v : St) (hp : p = 0 ∨ p = 5) (hc4 : c ≤ 4) (hj3 : jn ≤ 3) (hPg : PgOK c jn P) (hM : PgM p P v) (hE : MEnv aw mm 0 v) (h0 : v.1 0 = nI c) (hs : s < 2) : ∃ v', pX7_wonThen F (nI (68 * p)) (nI s) v = some (nI (wd P aw s c), v') ∧ eqD v v' := by
  obtain ⟨v', m1, ⟨Q, m2, m3⟩, -, -, m6⟩ := M_docket F hF v hp hc4 hj3 hPg hM hE
  have km := M_won F hF v' (p := 4) (val := s + 1) (by omega) hc4 ((m6.1 0 (by omega)).trans h0) m2 (by omega) (fun i hi => by rw [m3 i hi]; have := dkV_bd hPg (stg P aw (P 46)) (P 55) (Nat.le_refl _) i hi; omega)
  refine ⟨v', ?_, m6⟩
  unfold pX7_wonThen
  rw [m1, bd_s, show (272 : Int32) = nI (68 * 4) from rfl, nI_s, km, bd_s, M_pop F hF _ hc4, bd_s]
  unfold wd
  rw [cn_c c (fun i hi => by show decide (Q (24 + i) = s + 1) = decide (dkV P (stg P aw (P 46)) (P 55) i = s + 1); rw [m3 i hi])]
theorem wd_le (P : Nat → Nat) (aw s c : Nat) : wd P aw s c ≤ c := cn_le _ c
def sw1 (P : Nat → Nat) (s c p q : Nat) (st : Nat × Int32) : Nat × Int32 := if wd (swP P p q) 0 s c ≤ st.1 then st else (wd (swP P p q) 0 s c, nI (10 * p + q))
def swI (P : Nat → Nat) (s c p : Nat) : Nat → Nat × Int32 → Nat × Int32
  | 0, st => st
  | k + 1, st => sw1 P s c p (p + 1 + k) (swI P s c p k st)
def swO (P : Nat → Nat) (s c : Nat) : Nat → Nat × Int32
  | 0 => (wd P 0 s c, -4)
  | p + 1 => swI P s c p (P 55 - (p + 1)) (swO P s c p)
theorem swI_le (P : Nat → Nat) (s p : Nat) {c : Nat} {st : Nat × Int32} (hst : st.1 ≤ c) : ∀ k, (swI P s c p k st).1 ≤ c
  | 0 => hst
  | k + 1 => by
    unfold swI sw1
    split
    · exact swI_le P s p hst k
    · exact wd_le _ _ _ _
theorem swO_le (P : Nat → Nat) (s c : Nat) : ∀ p, (swO P s c p).1 ≤ c
  | 0 => wd_le _ _ _ _
  | p + 1 => swI_le P s p (swO_le P s c p) _
theorem X_chg (F : Nat) (u : St) {p q : Nat} (hp : p < 6) (hq : q < 6) : pX0_changeDocketJudges F 0 (nI p) (nI q) u = some ((), sta (sta u 12 (nI p) (u.2 12 q)) 12 (nI q) (u.2 12 p)) := by
  unfold pX0_changeDocketJudges
  rw [show 13 * 0 + 12 = 12 from rfl, gd_i (by omega) (by omega), vl_e, gd_i (by omega) (by omega), gd_i (by omega) (by omega), vl_e, gd_i (by omega) (by omega), vl_e, cl (by omega), cl (by omega)]
theorem CtX.sw {c jn p q : Nat} {P : Nat → Nat} {u : St} (h : CtX 0 c jn P u) (hPg : PgOK c jn P) (hc : c ≤ 4) (hj : jn ≤ 3) (hp : p < P 55) (hq : q < P 55) : CtX 0 c jn (swP P p q) (sta (sta u 12 (nI p) (u.2 12 q)) 12 (nI q) (u.2 12 p)) := by
  obtain ⟨h1, h2, h3, h4, h5, h6, h7, h8, h9⟩ := h
  have q1 := hPg.1
  have q2 := hPg.2.1
  have ep : u.2 12 p = nI (P (62 + p)) := (h9 p hp).2
  have eq : u.2 12 q = nI (P (62 + q)) := (h9 q hq).2
  rw [ep, eq]
  have o : ∀ k, k ≠ 12 → (sta (sta u 12 (nI p) (nI (P (62 + q)))) 12 (nI q) (nI (P (62 + p)))).2 k = u.2 k := fun k hk => by rw [sta_m _ _ _ hk, sta_m _ _ _ hk]
  refine ⟨h1, h2, by rw [swP_lo P p q (by omega)]; exact h3, by rw [swP_lo P p q (by omega)]; exact h4, fun f hf => ?_, fun f hf => ?_, fun f hf => ?_, fun f hf => ?_, fun f hf => ?_⟩
  · rw [o _ (by omega), o _ (by omega), o _ (by omega), swP_lo P p q (by omega), swP_lo P p q (by omega), swP_lo P p q (by omega)]; exact h5 f hf
  · rw [o _ (by omega), o _ (by omega), o _ (by omega), o _ (by omega), swP_lo P p q (by omega), swP_lo P p q (by omega), swP_lo P p q (by omega), swP_lo P p q (by omega)]; exact h6 f hf
  · rw [o _ (by omega), o _ (by omega), swP_lo P p q (by omega), swP_lo P p q (by omega)]; exact h7 f hf
  · rw [swP_lo P p q (by omega)] at hf
    rw [o _ (by omega), o _ (by omega), swP_lo P p q (by omega), swP_lo P p q (by omega)]; exact h8 f hf
  · rw [swP_lo P p q (by omega)] at hf
    obtain ⟨w0, w1⟩ := h9 f hf
    refine ⟨by rw [o _ (by omega), swP_lo P p q (by omega)]; exact w0, ?_⟩
    exact cellG (cellG w1 (by omega) (by omega)) (by omega) (by omega)
theorem X_sw1 (F : Nat) (hF : 80 ≤ F) {c jn s p q : Nat} {P : Nat → Nat} (w : St) (hc4 : c ≤ 4) (hj3 : jn ≤ 3) (hPg : PgOK c jn P) (hX : CtX 0 c jn P w) (hpq : p < q) (hq : q < P 55) (hs : s < 2) : ∃ w1 w2 w3, pX0_changeDocketJudges F 0 (nI p) (nI q) w = some ((), w1) ∧ pX6_wonByDocket F (nI s) 0 w1 = some (nI (wd (swP P p q) 0 s c), w2) ∧ pX0_changeDocketJudges F 0 (nI p) (nI q) w2 = some ((), w3) ∧ eqG w w3 := by
  have q2 := hPg.2.1
  have c1 := hX.sw hPg hc4 hj3 (show p < P 55 by omega) hq
  obtain ⟨w2, g1, g2⟩ := X_wonD F hF (aw := 0) _ hc4 hj3 (swP_ok hPg hc4 hj3 (show p < P 55 by omega) hq) c1 (by omega) hs
  refine ⟨_, w2, _, X_chg F w (by omega) (by omega), g1, X_chg F w2 (by omega) (by omega), fun k hk => ?_, fun k hk => ?_⟩
  · exact g2.1 k hk
  · by_cases z : k = 12
    · subst z
      have e12 : w2.2 12 = (sta (sta w 12 (nI p) (w.2 12 q)) 12 (nI q) (w.2 12 p)).2 12 := g2.2 12 (by omega)
      funext j
      rw [sta_h _ _ (by omega), sta_h _ _ (by omega), e12, sta_h _ _ (by omega), sta_h _ _ (by omega), sta_h _ _ (by omega), sta_h _ _ (by omega), sta_h _ _ (by omega), sta_h _ _ (by omega)]
      by_cases jq : j = q
      · rw [if_pos jq, if_neg (by omega), if_pos rfl, jq]
      · rw [if_neg jq]
        by_cases jp : j = p
        · rw [if_pos jp, if_pos rfl, jp]
        · rw [if_neg jp, if_neg jq, if_neg jp]
    · rw [sta_m _ _ _ z, sta_m _ _ _ z, g2.2 k hk, sta_m _ _ _ z, sta_m _ _ _ z]
def eqE (v v' : St) : Prop := (∀ k, (k < 18 ∨ 20 < k) → v'.1 k = v.1 k) ∧ (∀ k, k ≠ 0 → v'.2 k = v.2 k) ∧ ∀ i, (i < 272 ∨ 408 ≤ i) → v'.2 0 i = v.2 0 i
theorem eqE.rf {v : St} : eqE v v := ⟨fun _ _ => rfl, fun _ _ => rfl, fun _ _ => rfl⟩
theorem eqE.m {v v' : St} (h : eqE v v') : eqM v v' := ⟨fun i hi => h.2.2 i (by omega), ⟨h.1 _ (by omega), h.1 _ (by omega), h.1 _ (by omega), h.1 _ (by omega), h.1 _ (by omega), h.1 _ (by omega), h.1 _ (by omega), h.1 _ (by omega)⟩, fun k hk => h.2.1 k (by omega)⟩
theorem eqE.tr {u w x : St} (h : eqE u w) (h2 : eqE w x) : eqE u x := ⟨fun k q => (h2.1 k q).trans (h.1 k q), fun k q => (h2.2.1 k q).trans (h.2.1 k q), fun k q => (h2.2.2 k q).trans (h.2.2 k q)⟩
theorem eqE.pg {v v' : St} {P : Nat → Nat} (h : eqE v v') (hM : PgM 0 P v) : PgM 0 P v' := fun k hk => by
  rw [h.2.2 _ (by omega)]
  exact hM k hk
theorem eqE.env {v v' : St} {aw mm ms : Nat} (h : eqE v v') (hE : MEnv aw mm ms v) : MEnv aw mm ms v' := by
  obtain ⟨e1, e2, e3, e4, e5, e6, e7⟩ := hE
  refine ⟨e1, (h.1 15 (by omega)).trans e2, ?_, (h.1 17 (by omega)).trans e4, e5, e6, (h.2.1 1 (by omega)).trans e7⟩
  rw [h.1 16 (by omega)]
  exact e3
theorem eqD.e {v v' : St} (h : eqD v v') : eqE v v' := ⟨h.1, h.2.1, fun i hi => h.2.2 i (by omega)⟩
theorem eqR.e {v v' : St} (h : eqR v v') : eqE v v' := ⟨fun k hk => h.1 k (by omega), h.2.1, h.2.2⟩
theorem eqE.st5 {v w : St} (h : eqE v w) {k : Nat} (hk : k < 68) (x : Int32) : eqE v (sta w 0 (nI (340 + k)) x) := ⟨fun k hk => h.1 k hk, fun k hk => by rw [sta_m _ _ _ hk]; exact h.2.1 k hk, fun i hi => by rw [sta_h _ _ (by omega), if_neg (by omega)]; exact h.2.2 i hi⟩
theorem M_sw1 (F : Nat) (hF : 80 ≤ F) {c jn s p q : Nat} {P : Nat → Nat} (w : St) (hc4 : c ≤ 4) (hj3 : jn ≤ 3) (hPg : PgOK c jn P) (hM : PgM 0 P w) (hE : MEnv 0 0 0 w) (h0 : w.1 0 = nI c) (hpq : p < q) (hq : q < P 55) (hs : s < 2) : ∃ w1 w2, pX7_copies F 0 340 w = some ((), w1) ∧ PgM 0 P w1 ∧ pX7_wonThen F 340 (nI s) (sta (sta w1 0 (nI (402 + p)) (nI (P (62 + q)))) 0 (nI (402 + q)) (nI (P (62 + p)))) = some (nI (wd (swP P p q) 0 s c), w2) ∧ eqE w w2 := by
  have q2 := hPg.2.1
  obtain ⟨w1, g1, g2, g3⟩ := M_other F hF w hM
  have m0 := pg5 (pg5 g2 (k := 62 + p) (x := P (62 + q)) (by omega)) (k := 62 + q) (x := P (62 + p)) (by omega)
  have m0' : PgM 5 (swP P p q) (sta (sta w1 0 (nI (402 + p)) (nI (P (62 + q)))) 0 (nI (402 + q)) (nI (P (62 + p)))) := by
    have := m0
    rw [show 340 + (62 + p) = 402 + p by omega, show 340 + (62 + q) = 402 + q by omega] at this
    exact this
  have e0 := (g3.e.st5 (k := 62 + p) (by omega) (nI (P (62 + q)))).st5 (k := 62 + q) (by omega) (nI (P (62 + p)))
  rw [show 340 + (62 + p) = 402 + p by omega, show 340 + (62 + q) = 402 + q by omega] at e0
  obtain ⟨w2, k1, k2⟩ := M_wonD F hF (p := 5) _ (Or.inr rfl) hc4 hj3 (swP_ok hPg hc4 hj3 (show p < P 55 by omega) hq) m0' (e0.env hE) ((e0.1 0 (by omega)).trans h0) hs
  exact ⟨w1, w2, g1, g3.pg hM, k1, e0.tr k2.e⟩
theorem X_swI (F : Nat) (hF : 80 ≤ F) {c jn s p : Nat} {P : Nat → Nat} (J : Int32 → Int32 → St → Option (Int32 × St)) (u : St) (hc4 : c ≤ 4) (hj3 : jn ≤ 3) (hPg : PgOK c jn P) (hX : CtX 0 c jn P u) (hp : p < P 55) (hs : s < 2) {st : Nat × Int32} (hst : st.1 ≤ c) : ∃ u', lq3 (bX6_swap_51 F (nI s) (nI p) J) F (nI st.1) st.2 (nI (p + 1)) u = J (nI (swI P s c p (P 55 - (p + 1)) st).1) (swI P s c p (P 55 - (p + 1)) st).2 u' ∧ eqG u u' := by
  have q2 := hPg.2.1
  refine lq3_up (n := P 55) (I := fun i x y w => p + 1 ≤ i ∧ x = nI (swI P s c p (i - (p + 1)) st).1 ∧ y = (swI P s c p (i - (p + 1)) st).2 ∧ eqG u w) (Q := fun o => ∃ u' : St, o = J (nI (swI P s c p (P 55 - (p + 1)) st).1) (swI P s c p (P 55 - (p + 1)) st).2 u' ∧ eqG u u') ?_ ?_ (P 55 - (p + 1)) (p + 1) F (nI st.1) st.2 u (by omega) (by omega) ⟨Nat.le_refl _, by rw [Nat.sub_self]; rfl, by rw [Nat.sub_self]; rfl, eqG.rf⟩
  · rintro g x y w ⟨h1, rfl, rfl, hw⟩
    refine ⟨w, ?_, hw⟩
    have e3 : w.1 3 = nI (P 55) := (hw.1 3 (by omega)).trans hX.2.2.2.1
    unfold bX6_swap_51
    rw [e3, if_pos (yle (Nat.le_refl _) (by omega))]
  · rintro g i x y w hi ⟨h1, rfl, rfl, hw⟩
    have e3 : w.1 3 = nI (P 55) := (hw.1 3 (by omega)).trans hX.2.2.2.1
    obtain ⟨w1, w2, w3, k1, k2, k3, k4⟩ := X_sw1 F hF w hc4 hj3 hPg (hX.eq (by omega) hw.x) (show p < i by omega) hi hs
    have b1 := swI_le P s p hst (i - (p + 1))
    have b2 := wd_le (swP P p i) 0 s c
    have ei : swI P s c p (i + 1 - (p + 1)) st = sw1 P s c p i (swI P s c p (i - (p + 1)) st) := by
      rw [show i + 1 - (p + 1) = (i - (p + 1)) + 1 by omega, swI, show p + 1 + (i - (p + 1)) = i by omega]
    refine Or.inr ⟨nI (swI P s c p (i + 1 - (p + 1)) st).1, (swI P s c p (i + 1 - (p + 1)) st).2, w3, ?_, by omega, rfl, rfl, hw.tr k4⟩
    unfold bX6_swap_51
    rw [e3, if_neg (nle hi (by omega)), k1, bd_s, k2, bd_s, k3, bd_s, ei]
    simp only [jn_e, nI_s, tm10, nI_add, vl_e]
    rw [ifle (by omega) (by omega)]
    unfold sw1
    by_cases z : wd (swP P p i) 0 s c ≤ (swI P s c p (i - (p + 1)) st).1
    · rw [if_pos z, if_pos z]
    · rw [if_neg z, if_neg z]
theorem M_swI (F : Nat) (hF : 80 ≤ F) {c jn s p : Nat} {P : Nat → Nat} (J : Int32 → Int32 → St → Option (Int32 × St)) (v : St) (hc4 : c ≤ 4) (hj3 : jn ≤ 3) (hPg : PgOK c jn P) (hM : PgM 0 P v) (hE : MEnv 0 0 0 v) (h0 : v.1 0 = nI c) (hp : p < P 55) (hs : s < 2) {st : Nat × Int32} (hst : st.1 ≤ c) : ∃ v', lq3 (bX7_swap_51 F (nI s) (nI p) J) F (nI st.1) st.2 (nI (p + 1)) v = J (nI (swI P s c p (P 55 - (p + 1)) st).1) (swI P s c p (P 55 - (p + 1)) st).2 v' ∧ eqE v v' := by
  have q2 := hPg.2.1
  have t55 : Int32.toNatClampNeg 55 = 55 := by decide +kernel
  have g55 : inb 55 408 = true := by decide +kernel
  refine lq3_up (n := P 55) (I := fun i x y w => p + 1 ≤ i ∧ x = nI (swI P s c p (i - (p + 1)) st).1 ∧ y = (swI P s c p (i - (p + 1)) st).2 ∧ eqE v w) (Q := fun o => ∃ v' : St, o = J (nI (swI P s c p (P 55 - (p + 1)) st).1) (swI P s c p (P 55 - (p + 1)) st).2 v' ∧ eqE v v') ?_ ?_ (P 55 - (p + 1)) (p + 1) F (nI st.1) st.2 v (by omega) (by omega) ⟨Nat.le_refl _, by rw [Nat.sub_self]; rfl, by rw [Nat.sub_self]; rfl, eqE.rf⟩
  · rintro g x y w ⟨h1, rfl, rfl, hw⟩
    refine ⟨w, ?_, hw⟩
    have e3 : w.2 0 55 = nI (P 55) := (hw.pg hM).g (by omega)
    unfold bX7_swap_51
    rw [g55, gd_true, t55, e3, if_pos (yle (Nat.le_refl _) (by omega))]
  · rintro g i x y w hi ⟨h1, rfl, rfl, hw⟩
    have e3 : w.2 0 55 = nI (P 55) := (hw.pg hM).g (by omega)
    obtain ⟨w1, w2, k1, k0, k2, k4⟩ := M_sw1 F hF w hc4 hj3 hPg (hw.pg hM) (hw.env hE) ((hw.1 0 (by omega)).trans h0) (show p < i by omega) hi hs
    have b1 := swI_le P s p hst (i - (p + 1))
    have b2 := wd_le (swP P p i) 0 s c
    have ei : swI P s c p (i + 1 - (p + 1)) st = sw1 P s c p i (swI P s c p (i - (p + 1)) st) := by
      rw [show i + 1 - (p + 1) = (i - (p + 1)) + 1 by omega, swI, show p + 1 + (i - (p + 1)) = i by omega]
    refine Or.inr ⟨nI (swI P s c p (i + 1 - (p + 1)) st).1, (swI P s c p (i + 1 - (p + 1)) st).2, w2, ?_, by omega, rfl, rfl, hw.tr k4⟩
    have a402 : ∀ a, (402 : Int32) + nI a = nI (402 + a) := fun a => by rw [show (402 : Int32) = nI 402 from rfl, nI_add]
    unfold bX7_swap_51
    rw [g55, gd_true, t55, e3, if_neg (nle hi (by omega)), k1, bd_s, ei, at62, a402, gd_i (by omega) (by omega), gd_i (by omega) (by omega), vl_e, cl (by omega), k0.g (by omega), at62, a402, gd_i (by omega) (by omega), gd_i (by omega) (by omega), vl_e, cl (by omega), sta_h _ _ (by omega), if_neg (by omega), k0.g (by omega), k2, bd_s]
    simp only [jn_e, nI_s, tm10, nI_add, vl_e]
    unfold sw1
    by_cases z : wd (swP P p i) 0 s c ≤ (swI P s c p (i - (p + 1)) st).1
    · rw [if_pos (yle z (by omega)), if_pos (yle z (by omega)), if_pos z]
    · rw [if_neg (nle (by omega) (by omega)), if_neg (nle (by omega) (by omega)), if_neg z]
theorem st_swap (F : Nat) (hLF : 200 ≤ F) {u v : St} (h : RR u v) (x0 x1 : Int32) : ∃ (r : Int32) (u' v' : St), pX6_swap F x0 x1 u = some (r, u') ∧ pX7_swap F x0 x1 v = some (r, v') ∧ RR u' v' := by
  obtain ⟨c, jn, P, ⟨c1, c2, c3, hX, c5, c6, c7⟩, i0, i1, hs, ht, hw, htn, hsh, hc⟩ := id h
  unfold pX6_swap pX7_swap
  rcases two_side x0 with ⟨s, s1, rfl, k, k'⟩ | ⟨k, k'⟩
  · rcases rng x1 (a0 := 0) (b0 := 1) (a1 := 0) (b1 := 1) 0 1 rfl rfl rfl rfl (by omega) (by omega) with ⟨d, d1, d2, rfl, q, q'⟩ | ⟨-, q, q'⟩
    · simp only [k, k', q, q', bd_s, i10, jn_e]
      have q2 := c3.2.1
      obtain ⟨u1, g1, g2⟩ := X_wonD F (by omega) (aw := 0) u c1 c2 c3 hX (by omega) s1
      obtain ⟨v1, m1, m2⟩ := M_wonD F (by omega) (p := 0) v (Or.inl rfl) c1 c2 c3 c7 (menv0 hc) c5 s1
      have g1' : pX6_wonByDocket F (nI s) 0 u = some (nI (wd P 0 s c), u1) := g1
      have m1' : pX7_wonThen F 0 (nI s) v = some (nI (wd P 0 s c), v1) := m1
      have t55 : Int32.toNatClampNeg 55 = 55 := by decide +kernel
      have g55 : inb 55 408 = true := by decide +kernel
      have pX : ∃ u', lq3 (bX6_swap_33 F (nI s) (jX6_swap_124 F (nI d))) F (nI (wd P 0 s c)) (-4) 0 u1 = jX6_swap_124 F (nI d) (nI (swO P s c (P 55)).1) (swO P s c (P 55)).2 u' ∧ eqG u u' := by
        refine lq3_up (n := P 55) (I := fun i x y w => x = nI (swO P s c i).1 ∧ y = (swO P s c i).2 ∧ eqG u w) (Q := fun o => ∃ u' : St, o = jX6_swap_124 F (nI d) (nI (swO P s c (P 55)).1) (swO P s c (P 55)).2 u' ∧ eqG u u') ?_ ?_ (P 55) 0 F _ _ u1 (by omega) (by omega) ⟨rfl, rfl, g2⟩
        · rintro g x y w ⟨rfl, rfl, hw⟩
          refine ⟨w, ?_, hw⟩
          have e3 : w.1 3 = nI (P 55) := (hw.1 3 (by omega)).trans hX.2.2.2.1
          unfold bX6_swap_33
          rw [e3, if_pos (yle (Nat.le_refl _) (by omega))]
        · rintro g i x y w hi ⟨rfl, rfl, hw⟩
          have e3 : w.1 3 = nI (P 55) := (hw.1 3 (by omega)).trans hX.2.2.2.1
          obtain ⟨w', k1, k2⟩ := X_swI F (by omega) (jX6_swap_118 F (nI i) g) w c1 c2 c3 (hX.eq (by omega) hw.x) hi s1 (swO_le P s c i)
          refine Or.inr ⟨nI (swO P s c (i + 1)).1, (swO P s c (i + 1)).2, w', ?_, rfl, rfl, hw.tr k2⟩
          unfold bX6_swap_33
          rw [e3, if_neg (nle hi (by omega)), vl_e, jn_e, nI_s, k1]
          unfold jX6_swap_118
          rw [nI_s, swO]
      have pM : ∃ v', lq3 (bX7_swap_33 F (nI s) (jX7_swap_169 F (nI d))) F (nI (wd P 0 s c)) (-4) 0 v1 = jX7_swap_169 F (nI d) (nI (swO P s c (P 55)).1) (swO P s c (P 55)).2 v' ∧ eqE v v' := by
        refine lq3_up (n := P 55) (I := fun i x y w => x = nI (swO P s c i).1 ∧ y = (swO P s c i).2 ∧ eqE v w) (Q := fun o => ∃ v' : St, o = jX7_swap_169 F (nI d) (nI (swO P s c (P 55)).1) (swO P s c (P 55)).2 v' ∧ eqE v v') ?_ ?_ (P 55) 0 F _ _ v1 (by omega) (by omega) ⟨rfl, rfl, m2.e⟩
        · rintro g x y w ⟨rfl, rfl, hw⟩
          refine ⟨w, ?_, hw⟩
          have e3 : w.2 0 55 = nI (P 55) := (hw.pg c7).g (by omega)
          unfold bX7_swap_33
          rw [g55, gd_true, t55, e3, if_pos (yle (Nat.le_refl _) (by omega))]
        · rintro g i x y w hi ⟨rfl, rfl, hw⟩
          have e3 : w.2 0 55 = nI (P 55) := (hw.pg c7).g (by omega)
          obtain ⟨w', k1, k2⟩ := M_swI F (by omega) (jX7_swap_163 F (nI i) g) w c1 c2 c3 (hw.pg c7) (hw.env (menv0 hc)) ((hw.1 0 (by omega)).trans c5) hi s1 (swO_le P s c i)
          refine Or.inr ⟨nI (swO P s c (i + 1)).1, (swO P s c (i + 1)).2, w', ?_, rfl, rfl, hw.tr k2⟩
          unfold bX7_swap_33
          rw [g55, gd_true, t55, e3, if_neg (nle hi (by omega)), vl_e, jn_e, nI_s, k1]
          unfold jX7_swap_163
          rw [nI_s, swO]
      obtain ⟨u', p1, p2⟩ := pX
      obtain ⟨v', n1, n2⟩ := pM
      rw [g1', m1', bd_s, bd_s, p1, n1]
      unfold jX6_swap_124 jX7_swap_169
      have hR := h.eq p2.x n2.m
      by_cases z : (swO P s c (P 55)).2 = -4
      · rw [if_pos z, if_pos z]; exact ⟨_, _, _, rfl, rfl, hR⟩
      · rw [if_neg z, if_neg z]
        by_cases z' : nI d = 0
        · rw [if_pos z', if_pos z']; exact ⟨_, _, _, rfl, rfl, hR⟩
        · rw [if_neg z', if_neg z']; exact ⟨_, _, _, rfl, rfl, hR⟩
    · simp only [k, k', q, q', bd_s, i10, i00]
      exact ⟨_, _, _, rfl, rfl, h⟩
  · simp only [k, k', bd_s, i00]
    exact ⟨_, _, _, rfl, rfl, h⟩
theorem step_swap {u v : St} (h : RR u v) (x0 x1 : Int32) : ∃ (r : Int32) (u' v' : St), pX6_swap LF x0 x1 u = some (r, u') ∧ pX7_swap LF x0 x1 v = some (r, v') ∧ RR u' v' := st_swap LF (by decide) h x0 x1
end
section
/-! PURE: draughts that come -/
theorem sh_b0 : ∀ aw, aw < 16 → ∀ i, i < 4 → (((nI aw >>> (nI i &&& 31)) &&& 1) = 0 ↔ aw.testBit i = false) := by decide +kernel
theorem sh_b1 : ∀ aw, aw < 16 → ∀ i, i < 4 → (((nI aw >>> (nI i &&& 31)) &&& 1) = 1 ↔ aw.testBit i = true) := by decide +kernel
theorem shl1 : ∀ n, n < 5 → (1 : Int32) <<< (nI n &&& 31) = nI (2 ^ n) := by decide +kernel
def wgN (v aw : Nat) : Nat → Nat
  | 0 => 1
  | n + 1 => wgN v aw n * (if aw.testBit n = true then v else 10 - v)
theorem wgN_le {v : Nat} (hv : v ≤ 10) (aw : Nat) : ∀ n, wgN v aw n ≤ 10 ^ n
  | 0 => Nat.le_refl _
  | n + 1 => by
    unfold wgN
    rw [Nat.pow_succ]
    exact Nat.mul_le_mul (wgN_le hv aw n) (by split <;> omega)
theorem p10_le {n : Nat} (h : n ≤ 4) : 10 ^ n ≤ 10000 := by
  have q : n = 0 ∨ n = 1 ∨ n = 2 ∨ n = 3 ∨ n = 4 := by omega
  rcases q with rfl | rfl | rfl | rfl | rfl <;> decide
theorem p2_le {n : Nat} (h : n ≤ 4) : 2 ^ n ≤ 16 := by
  have q : n = 0 ∨ n = 1 ∨ n = 2 ∨ n = 3 ∨ n = 4 := by omega
  rcases q with rfl | rfl | rfl | rfl | rfl <;> decide
theorem p10_0 (n : Nat) : 0 < 10 ^ n := Nat.pow_pos (by omega)
theorem n2l {n : Nat} (h : n < 1000) : Int32.toInt64 (nI n) = lN n := nI_l (by omega)
theorem l1 : (1 : Int64) = lN 1 := by decide +kernel
theorem l0 : (0 : Int64) = lN 0 := by decide +kernel
theorem l10 : (10 : Int64) = lN 10 := by decide +kernel
theorem X_weight (F : Nat) (hF : 80 ≤ F) (u : St) {n v aw : Nat} (hn : n ≤ 4) (h2 : u.1 2 = nI n) (hv : v ≤ 10) (ha : aw < 16) : pX6_weightOf F (nI v) (nI aw) u = some (lN (wgN v aw n), u) := by
  unfold pX6_weightOf
  refine lq2_up (n := n) (I := fun i x w => x = lN (wgN v aw i) ∧ w = u) (Q := fun o => o = some (lN (wgN v aw n), u)) ?_ ?_ n 0 F 1 u (by omega) (by omega) ⟨l1, rfl⟩
  · rintro g x w ⟨rfl, rfl⟩
    unfold bX6_weightOf_5
    rw [h2, if_pos (yle (Nat.le_refl _) (by omega))]
  · rintro g i x w hi ⟨rfl, rfl⟩
    refine Or.inr ⟨lN (wgN v aw (i + 1)), w, ?_, rfl, rfl⟩
    unfold bX6_weightOf_5
    rw [h2, if_neg (nle hi (by omega)), nI_s, show (10 : Int32) - nI v = nI (10 - v) from by rw [L10, subI hv], n2l (by omega), n2l (by omega)]
    simp only [jn_e, vl_e, lN_mul]
    rw [wgN]
    by_cases z : aw.testBit i = false
    · rw [if_pos ((sh_b0 aw ha i (by omega)).mpr z), if_neg (by rw [z]; decide)]
    · rw [if_neg (fun q => z ((sh_b0 aw ha i (by omega)).mp q)), if_pos (by simpa using z)]
theorem X_tenths (F : Nat) (hF : 80 ≤ F) (u : St) {n : Nat} (hn : n ≤ 4) (h2 : u.1 2 = nI n) : pX6_tenths F u = some (lN (10 ^ n), u) := by
  unfold pX6_tenths
  refine lq2_up (n := n) (I := fun i x w => x = lN (10 ^ i) ∧ w = u) (Q := fun o => o = some (lN (10 ^ n), u)) ?_ ?_ n 0 F 1 u (by omega) (by omega) ⟨l1, rfl⟩
  · rintro g x w ⟨rfl, rfl⟩
    unfold bX6_tenths_4
    rw [h2, if_pos (yle (Nat.le_refl _) (by omega))]
  · rintro g i x w hi ⟨rfl, rfl⟩
    refine Or.inr ⟨lN (10 ^ (i + 1)), w, ?_, rfl, rfl⟩
    unfold bX6_tenths_4
    rw [h2, if_neg (nle hi (by omega)), nI_s, l10, lN_mul, vl_e, Nat.pow_succ]
/-! lowest terms -/
theorem lg_z : lg_cmp (lN 0) 0 = 0 := by decide +kernel
theorem lg_nz {y : Nat} (h : 0 < y) (hy : y < 2 ^ 40) : ¬ lg_cmp (lN y) 0 = 0 := by
  unfold lg_cmp
  rw [l0, if_pos (show lN y > lN 0 from (pk_lLT (a := 0) (b := y) (by omega) (by omega)).mpr h)]
  decide
theorem nzl_l {y : Nat} (h : 0 < y) (hy : y < 2 ^ 40) : nzl (lN y) = true := by
  have e : ¬ lN y = 0 := fun z => by
    rw [l0] at z
    have := (pk_lEQ (a := y) (b := 0) (by omega) (by omega)).mp z
    omega
  unfold nzl
  simp [e]
theorem lrm_l {x y : Nat} (h : 0 < y) (hx : x < 2 ^ 40) (hy : y < 2 ^ 40) : lrm (lN x) (lN y) = lN (x % y) := pk_lRem (by omega) h (by omega)
theorem gcd_st (x y : Nat) : Nat.gcd x y = Nat.gcd y (x % y) := by
  rw [Nat.gcd_comm x y, Nat.gcd_rec y x, Nat.gcd_comm]
theorem X_lowL (F : Nat) (J : Int64 → St → Option (Int64 × St)) (u : St) : ∀ (n x y i f : Nat), y < 2 ^ n → i + (2 * n + 1) ≤ 100 → 2 * n + 1 < f → x < 2 ^ 40 → y < 2 ^ 40 → lq3 (bX6_inLowestTerms_9 F J) f (lN x) (lN y) (nI i) u = J (lN (Nat.gcd x y)) u
  | n, x, y, i, 0, h1, h2, h3, h4, h5 => by omega
  | 0, x, y, i, f + 1, h1, h2, h3, h4, h5 => by
    have e : y = 0 := by simp at h1; exact h1
    subst e
    rw [lq3_s]
    unfold bX6_inLowestTerms_9
    rw [if_neg (show ¬ (100 : Int32) ≤ nI i from by rw [L100]; exact nle (by omega) (by omega)), if_pos lg_z, Nat.gcd_zero_right]
  | n + 1, x, y, i, 1, h1, h2, h3, h4, h5 => by omega
  | n + 1, x, y, i, f + 1 + 1, h1, h2, h3, h4, h5 => by
    rw [lq3_s]
    by_cases q : y = 0
    · subst q
      unfold bX6_inLowestTerms_9
      rw [if_neg (show ¬ (100 : Int32) ≤ nI i from by rw [L100]; exact nle (by omega) (by omega)), if_pos lg_z, Nat.gcd_zero_right]
    · have r1 : x % y < y := Nat.mod_lt _ (by omega)
      have step : ∀ (s : Int64 → Int64 → Int32 → St → Option (Int64 × St)) (a b k : Nat), 0 < b → a < 2 ^ 40 → b < 2 ^ 40 → k < 100 → bX6_inLowestTerms_9 F J s (lN a) (lN b) (nI k) u = s (lN b) (lN (a % b)) (nI (k + 1)) u := fun s a b k hb ha hb' hk => by
        unfold bX6_inLowestTerms_9
        rw [if_neg (show ¬ (100 : Int32) ≤ nI k from by rw [L100]; exact nle hk (by omega)), if_neg (lg_nz hb hb'), nzl_l hb hb', gd_true, lrm_l hb ha hb', vl_e, nI_s]
      rw [step _ x y i (by omega) h4 h5 (by omega), lq3_s, gcd_st]
      by_cases z : x % y = 0
      · rw [z, Nat.gcd_zero_right]
        unfold bX6_inLowestTerms_9
        rw [if_neg (show ¬ (100 : Int32) ≤ nI (i + 1) from by rw [L100]; exact nle (by omega) (by omega)), if_pos lg_z]
      · have r2 : y % (x % y) < x % y := Nat.mod_lt _ (by omega)
        have r3 : y % (x % y) + x % y ≤ y := by
          have := Nat.div_add_mod y (x % y)
          have h6 : 1 ≤ y / (x % y) := Nat.div_pos (by omega) (by omega)
          have h7 : x % y * 1 ≤ x % y * (y / (x % y)) := Nat.mul_le_mul (Nat.le_refl _) h6
          omega
        rw [step _ y (x % y) (i + 1) (by omega) h5 (by omega) (by omega), gcd_st]
        exact X_lowL F J u n (x % y) (y % (x % y)) (i + 1 + 1) f (by rw [Nat.pow_succ] at h1; omega) (by omega) (by omega) (by omega) (by omega)
theorem M_lowL (F : Nat) (J : Int64 → St → Option (Int64 × St)) (u : St) : ∀ (n x y f : Nat), y < 2 ^ n → 2 * n + 1 < f → x < 2 ^ 40 → y < 2 ^ 40 → lq2 (bX7_lowest_6 F J) f (lN x) (lN y) u = J (lN (Nat.gcd x y)) u
  | n, x, y, 0, h1, h3, h4, h5 => by omega
  | 0, x, y, f + 1, h1, h3, h4, h5 => by
    have e : y = 0 := by simp at h1; exact h1
    subst e
    rw [lq2_s]
    unfold bX7_lowest_6
    rw [if_pos lg_z, Nat.gcd_zero_right]
  | n + 1, x, y, 1, h1, h3, h4, h5 => by omega
  | n + 1, x, y, f + 1 + 1, h1, h3, h4, h5 => by
    rw [lq2_s]
    by_cases q : y = 0
    · subst q
      unfold bX7_lowest_6
      rw [if_pos lg_z, Nat.gcd_zero_right]
    · have r1 : x % y < y := Nat.mod_lt _ (by omega)
      have step : ∀ (s : Int64 → Int64 → St → Option (Int64 × St)) (a b : Nat), 0 < b → a < 2 ^ 40 → b < 2 ^ 40 → bX7_lowest_6 F J s (lN a) (lN b) u = s (lN b) (lN (a % b)) u := fun s a b hb ha hb' => by
        unfold bX7_lowest_6
        rw [if_neg (lg_nz hb hb'), nzl_l hb hb', gd_true, lrm_l hb ha hb', vl_e]
      rw [step _ x y (by omega) h4 h5, lq2_s, gcd_st]
      by_cases z : x % y = 0
      · rw [z, Nat.gcd_zero_right]
        unfold bX7_lowest_6
        rw [if_pos lg_z]
      · have r2 : y % (x % y) < x % y := Nat.mod_lt _ (by omega)
        have r3 : y % (x % y) + x % y ≤ y := by
          have := Nat.div_add_mod y (x % y)
          have h6 : 1 ≤ y / (x % y) := Nat.div_pos (by omega) (by omega)
          have h7 : x % y * 1 ≤ x % y * (y / (x % y)) := Nat.mul_le_mul (Nat.le_refl _) h6
          omega
        rw [step _ y (x % y) (by omega) h5 (by omega), gcd_st]
        exact M_lowL F J u n (x % y) (y % (x % y)) f (by rw [Nat.pow_succ] at h1; omega) (by omega) (by omega) (by omega)
def lowR (a b d : Nat) : Int64 := if d = 0 then lN a / lN (Nat.gcd a b) else lN b / lN (Nat.gcd a b)
theorem X_low (F : Nat) (hF : 80 ≤ F) (u : St) {a b d : Nat} (ha : a < 2 ^ 20) (h0 : 0 < b) (hb : b < 2 ^ 20) (hd : d < 2) : pX6_inLowestTerms F (lN a) (lN b) (nI d) u = some (lowR a b d, u) := by
  have hg : 0 < Nat.gcd b a := Nat.gcd_pos_of_pos_left _ h0
  have hg2 : Nat.gcd b a ≤ b := Nat.gcd_le_left _ h0
  unfold pX6_inLowestTerms
  rw [jn_e, show (0 : Int32) = nI 0 from rfl, X_lowL F (jX6_inLowestTerms_44 F (lN a) (lN b) (nI d)) u 20 b a 0 F ha (by omega) (by omega) (by omega) (by omega)]
  unfold jX6_inLowestTerms_44 lowR
  rw [if_pos (show 0 < lg_cmp (lN (Nat.gcd b a)) 0 from (lg_gt _ _).mpr (by rw [pk_lT (by omega), show (0 : Int64).toInt = 0 from by decide]; omega)), nzl_l hg (by omega), gd_true, gd_true, Nat.gcd_comm b a]
  by_cases q : d = 0
  · rw [if_pos (by rw [q]; rfl), if_pos q]
  · rw [if_neg (n0f q (by omega)), if_neg q]
theorem M_low (F : Nat) (hF : 80 ≤ F) (u : St) {a b d : Nat} (ha : a < 2 ^ 20) (h0 : 0 < b) (hb : b < 2 ^ 20) (hd : d < 2) : pX7_lowest F (lN a) (lN b) (nI d) u = some (lowR a b d, u) := by
  have hg : 0 < Nat.gcd a b := Nat.gcd_pos_of_pos_right _ h0
  have hg2 : Nat.gcd a b ≤ b := Nat.gcd_le_right _ h0
  unfold pX7_lowest
  rw [jn_e, M_lowL F (jX7_lowest_31 F (lN a) (lN b) (nI d)) u 20 a b F hb (by omega) (by omega) (by omega)]
  unfold jX7_lowest_31 lowR
  rw [nzl_l hg (by omega), gd_true, gd_true]
  by_cases q : d = 0
  · rw [if_pos (by rw [q]; rfl), if_pos q]
  · rw [if_neg (n0f q (by omega)), if_neg q]
/-! the sums -/
def awN (v n : Nat) (val : Nat → Nat) : Nat → Nat
  | 0 => 0
  | aw + 1 => awN v n val aw + wgN v aw n * val aw
theorem awN_lt {v n : Nat} (hv : v ≤ 10) (hn : n ≤ 4) {val : Nat → Nat} (hval : ∀ aw, val aw ≤ 4) : ∀ k, awN v n val k ≤ k * 40000
  | 0 => by
    unfold awN
    omega
  | k + 1 => by
    have h1 := awN_lt hv hn hval k
    have h2 := wgN_le hv k n
    have h3 := p10_le hn
    have h4 : wgN v k n * val k ≤ 10000 * 4 := Nat.mul_le_mul (by omega) (hval k)
    unfold awN
    omega
def eqB (v v' : St) : Prop := (∀ k, k ≠ 15 → (k < 18 ∨ 20 < k) → v'.1 k = v.1 k) ∧ (∀ k, k ≠ 0 → v'.2 k = v.2 k) ∧ ∀ i, (i < 272 ∨ 408 ≤ i) → v'.2 0 i = v.2 0 i
theorem M_away (F : Nat) (hF : 200 ≤ F) {c jn vv d : Nat} {P : Nat → Nat} {val : Nat → Nat} (v : St) (p2 p3 p4 : Int32) (hPg : PgOK c jn P) (hM : PgM 0 P v) (hE : MEnv 0 0 0 v) (h0 : v.1 0 = nI c) (hvv : vv ≤ 10) (hd : d < 2) (hval4 : ∀ aw, val aw ≤ 4) (hval : ∀ aw w (J : Int32 → St → Option (Int64 × St)), aw < 16 → PgM 0 P w → MEnv aw 0 0 w → w.1 0 = nI c → ∃ w', (if p2 = -4 then bd (pX7_wonThen F 0 p3 w) (fun (r21 : Int32) (u20 : St) => J r21 u20) else bd (pX7_isWonBy F 0 p2 p3 p4 w) (fun (r19 : Int32) (u18 : St) => if r19 = 0 then J 0 u18 else J 1 u18)) = J (nI (val aw)) w' ∧ eqE w w') : ∃ v', pX7_byAway F (nI vv) p2 p3 p4 (nI d) v = some (lowR (awN vv (P 46) val (2 ^ P 46)) (10 ^ P 46) d, v') ∧ eqM v v' := by
  have h46 := hPg.1
  have e46 : v.2 0 46 = nI (P 46) := hM.g (by omega)
  have t46 : Int32.toNatClampNeg 46 = 46 := by decide +kernel
  have g46 : inb 46 408 = true := by decide +kernel
  obtain ⟨e1, e2, -, e4, -, -, e7⟩ := hE
  have h16 := p2_le h46
  -- tenths
  have ten : ∀ J : Int64 → St → Option (Int64 × St), lq2 (bX7_byAway_9 F J) F 1 0 v = J (lN (10 ^ P 46)) v := fun J => by
    refine lq2_up (n := P 46) (I := fun i x w => x = lN (10 ^ i) ∧ w = v) (Q := fun o => o = J (lN (10 ^ P 46)) v) ?_ ?_ (P 46) 0 F 1 v (by omega) (by omega) ⟨l1, rfl⟩
    · rintro g x w ⟨rfl, rfl⟩
      unfold bX7_byAway_9
      rw [g46, gd_true, t46, e46, if_pos (yle (Nat.le_refl _) (by omega))]
    · rintro g i x w hi ⟨rfl, rfl⟩
      refine Or.inr ⟨lN (10 ^ (i + 1)), w, ?_, rfl, rfl⟩
      unfold bX7_byAway_9
      rw [g46, gd_true, t46, e46, if_neg (nle hi (by omega)), nI_s, l10, lN_mul, vl_e, Nat.pow_succ]
  -- a weight
  have wgt : ∀ (J : Int64 → St → Option (Int64 × St)) (w : St) (aw : Nat), aw < 16 → w.2 0 46 = nI (P 46) → lq2 (bX7_byAway_58 F (nI vv) (nI aw) J) F 1 0 w = J (lN (wgN vv aw (P 46))) w := fun J w aw ha hw => by
    refine lq2_up (n := P 46) (I := fun i x y => x = lN (wgN vv aw i) ∧ y = w) (Q := fun o => o = J (lN (wgN vv aw (P 46))) w) ?_ ?_ (P 46) 0 F 1 w (by omega) (by omega) ⟨l1, rfl⟩
    · rintro g x y ⟨rfl, rfl⟩
      unfold bX7_byAway_58
      rw [g46, gd_true, t46, hw, if_pos (yle (Nat.le_refl _) (by omega))]
    · rintro g i x y hi ⟨rfl, rfl⟩
      refine Or.inr ⟨lN (wgN vv aw (i + 1)), y, ?_, rfl, rfl⟩
      unfold bX7_byAway_58
      rw [g46, gd_true, t46, hw, if_neg (nle hi (by omega)), nI_s, show (10 : Int32) - nI vv = nI (10 - vv) from by rw [L10, subI hvv], n2l (by omega), n2l (by omega)]
      simp only [jn_e, vl_e, lN_mul]
      rw [wgN]
      by_cases z : aw.testBit i = true
      · rw [if_pos ((sh_b1 aw ha i (by omega)).mpr z), if_pos z]
      · rw [if_neg (fun q => z ((sh_b1 aw ha i (by omega)).mp q)), if_neg z]
  unfold pX7_byAway
  rw [jn_e, ten]
  unfold jX7_byAway_35
  rw [jn_e]
  have hb := awN_lt hvv h46 hval4 (2 ^ P 46)
  have h10 := p10_le h46
  have fin : ∀ w, eqB v w → ∃ v', jX7_byAway_155 F (nI d) (lN (10 ^ P 46)) (lN (awN vv (P 46) val (2 ^ P 46))) w = some (lowR (awN vv (P 46) val (2 ^ P 46)) (10 ^ P 46) d, v') ∧ eqM v v' := fun w hw => by
    refine ⟨stf w 15 0, ?_, fun i hi => hw.2.2 i (by omega), ⟨?_, ?_, ?_, ?_, ?_, ?_, ?_, ?_⟩, fun k hk => hw.2.1 k (by omega)⟩
    · unfold jX7_byAway_155
      rw [vl_e, M_low F (by omega) _ (by omega) (p10_0 _) (by omega) hd, bd_s]
    · rw [stf_1, if_neg (by omega)]; exact hw.1 0 (by omega) (by omega)
    · rw [stf_1, if_neg (by omega)]; exact hw.1 1 (by omega) (by omega)
    · rw [stf_1, if_neg (by omega)]; exact hw.1 7 (by omega) (by omega)
    · rw [stf_1, if_neg (by omega)]; exact hw.1 8 (by omega) (by omega)
    · rw [stf_1, if_pos rfl, e2]; rfl
    · rw [stf_1, if_neg (by omega)]; exact hw.1 17 (by omega) (by omega)
    · rw [stf_1, if_neg (by omega)]; exact hw.1 21 (by omega) (by omega)
    · rw [stf_1, if_neg (by omega)]; exact hw.1 22 (by omega) (by omega)
  refine lq2_up (n := 2 ^ P 46) (I := fun i x w => x = lN (awN vv (P 46) val i) ∧ eqB v w) (Q := fun o => ∃ v' : St, o = some (lowR (awN vv (P 46) val (2 ^ P 46)) (10 ^ P 46) d, v') ∧ eqM v v') ?_ ?_ (2 ^ P 46) 0 F 0 v (by omega) (by omega) ⟨l0, fun _ _ _ => rfl, fun _ _ => rfl, fun _ _ => rfl⟩
  · rintro g x w ⟨rfl, hw⟩
    have ew : w.2 0 46 = nI (P 46) := (hw.2.2 46 (by omega)).trans e46
    unfold bX7_byAway_38
    rw [g46, gd_true, t46, ew, shl1 _ (by omega), if_pos (yle (Nat.le_refl _) (by omega))]
    exact fin w hw
  · rintro g i x w hi ⟨rfl, hw⟩
    have ew : w.2 0 46 = nI (P 46) := (hw.2.2 46 (by omega)).trans e46
    have hi16 : i < 16 := by omega
    have mw : PgM 0 P (stf w 15 (nI i)) := fun k hk => (hw.2.2 _ (by omega)).trans (hM k hk)
    have ee : MEnv i 0 0 (stf w 15 (nI i)) := ⟨hi16, rfl, Or.inl rfl, (hw.1 17 (by omega) (by omega)).trans e4, by omega, by omega, (hw.2.1 1 (by omega)).trans e7⟩
    obtain ⟨w', k1, k2⟩ := hval i (stf w 15 (nI i)) (fun (a15 : Int32) (u16 : St) => vl (lN (awN vv (P 46) val i) + (lN (wgN vv i (P 46)) * (Int32.toInt64 a15))) (fun v17 => (g v17 (nI i + 1) u16))) hi16 mw ee ((hw.1 0 (by omega) (by omega)).trans h0)
    refine Or.inr ⟨lN (awN vv (P 46) val (i + 1)), w', ?_, rfl, fun k q1 q2 => ?_, fun k hk => (k2.2.1 k hk).trans (hw.2.1 k hk), fun k hk => (k2.2.2 k hk).trans (hw.2.2 k hk)⟩
    · unfold bX7_byAway_38
      rw [g46, gd_true, t46, ew, shl1 _ (by omega), if_neg (nle hi (by omega)), jn_e, wgt _ w i hi16 ew]
      unfold jX7_byAway_102
      rw [vl_e, jn_e, k1, vl_e, n2l (by have := hval4 i; omega), lN_mul, lN_add, nI_s, awN]
    · rw [k2.1 k q2, stf_1, if_neg q1, hw.1 k q1 q2]
/-! luck -/
theorem st_luck (F : Nat) (hLF : 200 ≤ F) {u v : St} (h : RR u v) (x0 x1 x2 x3 x4 : Int32) : ∃ (r : Int64) (u' v' : St), pX6_luck F x0 x1 x2 x3 x4 u = some (r, u') ∧ pX7_luck F x0 x1 x2 x3 x4 v = some (r, v') ∧ RR u' v' := by
  obtain ⟨c, jn, P, ⟨c1, c2, c3, hX, c5, c6, c7⟩, i0, i1, hs, ht, hw, htn, hsh, hc⟩ := id h
  unfold pX6_luck pX6_isFlame pX7_luck pX7_isHeard
  rcases rng x0 (a0 := 0) (b0 := 10) (a1 := 0) (b1 := 10) 0 10 rfl rfl rfl rfl (by omega) (by omega) with ⟨vv, v1, v2, rfl, o, o'⟩ | ⟨-, o, o'⟩
  · rcases two_case x1 c1 hX.1 c5 with ⟨a, a1, rfl, e, e'⟩ | ⟨e, e'⟩
    · rcases two_judge x3 c2 hX.2.1 c6 with ⟨b, b1, rfl, k, k'⟩ | ⟨k, k'⟩
      · rcases two_side x2 with ⟨s, s1, rfl, q, q'⟩ | ⟨q, q'⟩
        · rcases rng x4 (a0 := 0) (b0 := 1) (a1 := 0) (b1 := 1) 0 1 rfl rfl rfl rfl (by omega) (by omega) with ⟨d, d1, d2, rfl, t, t'⟩ | ⟨-, t, t'⟩
          · simp only [o, o', e, e', k, k', q, q', t, t', bd_s, i10, jn_e]
            have h46 := c3.1
            have h16 := p2_le h46
            obtain ⟨val, hvd⟩ : ∃ val : Nat → Nat, val = fun aw => if wn P (stg P aw (P 46)) a s b = true then 1 else 0 := ⟨_, rfl⟩
            have hval4 : ∀ aw, val aw ≤ 4 := fun aw => by
              rw [hvd]
              show (if wn P (stg P aw (P 46)) a s b = true then 1 else 0) ≤ 4
              split <;> omega
            obtain ⟨v', m1, m2⟩ := M_away F hLF (vv := vv) (d := d) (val := val) v (nI a) (nI s) (nI b) c3 c7 (menv0 hc) c5 (by omega) (by omega) hval4 (fun aw w J ha hMw hEw h0w => by
              obtain ⟨w', g1, g2⟩ := M_isWon F (by omega) (p := 0) (s := s) w (by omega) (by omega) c1 c2 c3 hMw hEw a1 b1 s1
              rw [stm_a] at g1
              have g1' : pX7_isWonBy F 0 (nI a) (nI s) (nI b) w = some (if wn P (stg P aw (P 46)) a s b = true then 1 else 0, w') := g1
              refine ⟨w', ?_, g2.e⟩
              rw [if_neg (m4_lt (by omega)).2.1, g1', bd_s, hvd]
              show (if (if wn P (stg P aw (P 46)) a s b = true then (1 : Int32) else 0) = 0 then J 0 w' else J 1 w') = J (nI (if wn P (stg P aw (P 46)) a s b = true then 1 else 0)) w'
              by_cases z : wn P (stg P aw (P 46)) a s b = true
              · rw [if_pos z, if_pos z, if_neg (by decide)]; rfl
              · rw [if_neg z, if_neg z, if_pos rfl]; rfl)
            rw [m1, bd_s]
            have hb := awN_lt (show vv ≤ 10 by omega) h46 hval4 (2 ^ P 46)
            have h10 := p10_le h46
            have pX : ∃ u', lq2 (bX6_luck_53 F (nI vv) (nI a) (nI s) (nI b) (jX6_luck_107 F (nI d))) F 0 0 u = some (lowR (awN vv (P 46) val (2 ^ P 46)) (10 ^ P 46) d, u') ∧ eqT u u' := by
              refine lq2_up (n := 2 ^ P 46) (I := fun i x w => x = lN (awN vv (P 46) val i) ∧ eqT u w) (Q := fun o => ∃ u' : St, o = some (lowR (awN vv (P 46) val (2 ^ P 46)) (10 ^ P 46) d, u') ∧ eqT u u') ?_ ?_ (2 ^ P 46) 0 F 0 u (by omega) (by omega) ⟨l0, eqT.rf⟩
              · rintro g x w ⟨rfl, hw'⟩
                refine ⟨w, ?_, hw'⟩
                have e2 : w.1 2 = nI (P 46) := (hw'.1 2 (by omega)).trans hX.2.2.1
                unfold bX6_luck_53
                rw [e2, shl1 _ (by omega), if_pos (yle (Nat.le_refl _) (by omega))]
                unfold jX6_luck_107
                rw [X_tenths F (by omega) w h46 e2, bd_s, X_low F (by omega) w (by omega) (p10_0 _) (by omega) (by omega), bd_s]
              · rintro g i x w hi ⟨rfl, hw'⟩
                have e2 : w.1 2 = nI (P 46) := (hw'.1 2 (by omega)).trans hX.2.2.1
                obtain ⟨y, y1, y2, y3⟩ := X_prepP F (by omega) w c1 c2 c3 (hX.eq (by omega) hw'.x) a1 b1 (aw := i) (by omega)
                obtain ⟨z, z1, -, z3⟩ := X_heldP F (by omega) y c3 a1 b1 (fun m => stg_lt c3 i m) y2
                have hbd := hP_bd c3 (stg P i (P 46)) a1 b1
                have ez : z.1 2 = nI (P 46) := (z3.1 2 (by omega)).trans ((y3.1 2 (by omega)).trans e2)
                refine Or.inr ⟨lN (awN vv (P 46) val (i + 1)), z, ?_, rfl, (hw'.tr y3).tr z3⟩
                unfold bX6_luck_53 pX6_prepare
                rw [e2, shl1 _ (by omega), if_neg (nle hi (by omega)), y1]
                simp only [bd_s]
                rw [z1, bd_s]
                simp only [jn_e, nI_s, X_weight F (show 80 ≤ F by omega) z h46 ez (show vv ≤ 10 by omega) (show i < 16 by omega), bd_s, vl_e, lN_add]
                rw [ifeq (by omega) (by omega), awN]
                have ev : val i = if (hP P (stg P i (P 46)) a b).1 = s + 1 then 1 else 0 := by
                  rw [hvd]
                  show (if wn P (stg P i (P 46)) a s b = true then 1 else 0) = _
                  by_cases z : (hP P (stg P i (P 46)) a b).1 = s + 1
                  · rw [if_pos z, if_pos (show wn P (stg P i (P 46)) a s b = true from decide_eq_true z)]
                  · rw [if_neg z, if_neg (by unfold wn; simp [z])]
                rw [ev]
                by_cases z : (hP P (stg P i (P 46)) a b).1 = s + 1
                · rw [if_pos z, if_pos z, Nat.mul_one]
                · rw [if_neg z, if_neg z, Nat.mul_zero]
                  rfl
            obtain ⟨u', p1, p2⟩ := pX
            exact ⟨_, u', v', p1, rfl, h.eq p2.x m2⟩
          · simp only [o, o', e, e', k, k', q, q', t, t', bd_s, i10, i00]
            exact ⟨_, _, _, rfl, rfl, h⟩
        · simp only [o, o', e, e', k, k', q, q', bd_s, i10, i00]
          exact ⟨_, _, _, rfl, rfl, h⟩
      · rcases two_side x2 with ⟨s, s1, rfl, q, q'⟩ | ⟨q, q'⟩
        · simp only [o, o', e, e', k, k', q, q', bd_s, i10, i00]
          exact ⟨_, _, _, rfl, rfl, h⟩
        · simp only [o, o', e, e', k, k', q, q', bd_s, i10, i00]
          exact ⟨_, _, _, rfl, rfl, h⟩
    · simp only [o, o', e, e', bd_s, i10, i00]
      exact ⟨_, _, _, rfl, rfl, h⟩
  · simp only [o, o', bd_s, i00]
    exact ⟨_, _, _, rfl, rfl, h⟩
theorem step_luck {u v : St} (h : RR u v) (x0 x1 x2 x3 x4 : Int32) : ∃ (r : Int64) (u' v' : St), pX6_luck LF x0 x1 x2 x3 x4 u = some (r, u') ∧ pX7_luck LF x0 x1 x2 x3 x4 v = some (r, v') ∧ RR u' v' := st_luck LF (by decide) h x0 x1 x2 x3 x4
theorem st_mean (F : Nat) (hLF : 200 ≤ F) {u v : St} (h : RR u v) (x0 x1 x2 : Int32) : ∃ (r : Int64) (u' v' : St), pX6_mean F x0 x1 x2 u = some (r, u') ∧ pX7_mean F x0 x1 x2 v = some (r, v') ∧ RR u' v' := by
  obtain ⟨c, jn, P, ⟨c1, c2, c3, hX, c5, c6, c7⟩, i0, i1, hs, ht, hw, htn, hsh, hc⟩ := id h
  unfold pX6_mean pX7_mean
  rcases rng x0 (a0 := 0) (b0 := 10) (a1 := 0) (b1 := 10) 0 10 rfl rfl rfl rfl (by omega) (by omega) with ⟨vv, v1, v2, rfl, o, o'⟩ | ⟨-, o, o'⟩
  · rcases two_side x1 with ⟨s, s1, rfl, q, q'⟩ | ⟨q, q'⟩
    · rcases rng x2 (a0 := 0) (b0 := 1) (a1 := 0) (b1 := 1) 0 1 rfl rfl rfl rfl (by omega) (by omega) with ⟨d, d1, d2, rfl, t, t'⟩ | ⟨-, t, t'⟩
      · simp only [o, o', q, q', t, t', bd_s, i10, jn_e]
        have h46 := c3.1
        have h16 := p2_le h46
        have hval4 : ∀ aw, wd P aw s c ≤ 4 := fun aw => by
          have := wd_le P aw s c
          omega
        obtain ⟨v', m1, m2⟩ := M_away F hLF (vv := vv) (d := d) (val := fun aw => wd P aw s c) v (-4) (nI s) (-4) c3 c7 (menv0 hc) c5 (by omega) (by omega) hval4 (fun aw w J ha hMw hEw h0w => by
          obtain ⟨w', g1, g2⟩ := M_wonD F (by omega) (p := 0) w (Or.inl rfl) c1 c2 c3 hMw hEw h0w s1
          have g1' : pX7_wonThen F 0 (nI s) w = some (nI (wd P aw s c), w') := g1
          refine ⟨w', ?_, g2.e⟩
          rw [if_pos rfl, g1', bd_s])
        rw [m1, bd_s]
        have hb := awN_lt (val := fun aw => wd P aw s c) (show vv ≤ 10 by omega) h46 hval4 (2 ^ P 46)
        have h10 := p10_le h46
        have pX : ∃ u', lq2 (bX6_mean_38 F (nI vv) (nI s) (jX6_mean_79 F (nI d))) F 0 0 u = some (lowR (awN vv (P 46) (fun aw => wd P aw s c) (2 ^ P 46)) (10 ^ P 46) d, u') ∧ eqG u u' := by
          refine lq2_up (n := 2 ^ P 46) (I := fun i x w => x = lN (awN vv (P 46) (fun aw => wd P aw s c) i) ∧ eqG u w) (Q := fun o => ∃ u' : St, o = some (lowR (awN vv (P 46) (fun aw => wd P aw s c) (2 ^ P 46)) (10 ^ P 46) d, u') ∧ eqG u u') ?_ ?_ (2 ^ P 46) 0 F 0 u (by omega) (by omega) ⟨l0, eqG.rf⟩
          · rintro g x w ⟨rfl, hw'⟩
            refine ⟨w, ?_, hw'⟩
            have e2 : w.1 2 = nI (P 46) := (hw'.1 2 (by omega)).trans hX.2.2.1
            unfold bX6_mean_38
            rw [e2, shl1 _ (by omega), if_pos (yle (Nat.le_refl _) (by omega))]
            unfold jX6_mean_79
            rw [X_tenths F (by omega) w h46 e2, bd_s, X_low F (by omega) w (by omega) (p10_0 _) (by omega) (by omega), bd_s]
          · rintro g i x w hi ⟨rfl, hw'⟩
            have e2 : w.1 2 = nI (P 46) := (hw'.1 2 (by omega)).trans hX.2.2.1
            obtain ⟨y, y1, y2⟩ := X_wonD F (by omega) (aw := i) w c1 c2 c3 (hX.eq (by omega) hw'.x) (by omega) s1
            refine Or.inr ⟨lN (awN vv (P 46) (fun aw => wd P aw s c) (i + 1)), y, ?_, rfl, hw'.tr y2⟩
            unfold bX6_mean_38
            rw [e2, shl1 _ (by omega), if_neg (nle hi (by omega)), X_weight F (by omega) w h46 e2 (by omega) (by omega), bd_s, y1, bd_s, vl_e, nI_s, n2l (by have := hval4 i; omega), lN_mul, lN_add, awN]
        obtain ⟨u', p1, p2⟩ := pX
        exact ⟨_, u', v', p1, rfl, h.eq p2.x m2⟩
      · simp only [o, o', q, q', t, t', bd_s, i10, i00]
        exact ⟨_, _, _, rfl, rfl, h⟩
    · simp only [o, o', q, q', bd_s, i10, i00]
      exact ⟨_, _, _, rfl, rfl, h⟩
  · simp only [o, o', bd_s, i00]
    exact ⟨_, _, _, rfl, rfl, h⟩
theorem step_mean {u v : St} (h : RR u v) (x0 x1 x2 : Int32) : ∃ (r : Int64) (u' v' : St), pX6_mean LF x0 x1 x2 u = some (r, u') ∧ pX7_mean LF x0 x1 x2 v = some (r, v') ∧ RR u' v' := st_mean LF (by decide) h x0 x1 x2
end
section
/-! PURE: what is seen -/
theorem RSeen.fn {c jn : Nat} {u v : St} (h : RSeen c jn u v) (hc : c ≤ 4) (hj : jn ≤ 3) : ∃ (n : Nat) (A B D : Nat → Nat), n ≤ 6 ∧ u.1 29 = nI n ∧ v.1 21 = nI n ∧ ∀ i, i < n → A i < c ∧ B i < jn ∧ 1 ≤ D i ∧ D i ≤ 3 ∧ u.2 60 i = nI (A i) ∧ u.2 61 i = nI (B i) ∧ u.2 62 i = nI (D i) ∧ v.2 7 (3 * i) = nI (A i) ∧ v.2 7 (3 * i + 1) = nI (B i) ∧ v.2 7 (3 * i + 2) = nI (D i) := by
  obtain ⟨n, n1, n2, n3, n4⟩ := h
  refine ⟨n, fun i => Int32.toNatClampNeg (u.2 60 i), fun i => Int32.toNatClampNeg (u.2 61 i), fun i => Int32.toNatClampNeg (u.2 62 i), n1, n2, n3, fun i hi => ?_⟩
  obtain ⟨a, b, d, a1, a2, a3, a4, a5, a6, a7, a8, a9, a10⟩ := n4 i hi
  show Int32.toNatClampNeg (u.2 60 i) < c ∧ Int32.toNatClampNeg (u.2 61 i) < jn ∧ 1 ≤ Int32.toNatClampNeg (u.2 62 i) ∧ Int32.toNatClampNeg (u.2 62 i) ≤ 3 ∧ u.2 60 i = nI (Int32.toNatClampNeg (u.2 60 i)) ∧ u.2 61 i = nI (Int32.toNatClampNeg (u.2 61 i)) ∧ u.2 62 i = nI (Int32.toNatClampNeg (u.2 62 i)) ∧ v.2 7 (3 * i) = nI (Int32.toNatClampNeg (u.2 60 i)) ∧ v.2 7 (3 * i + 1) = nI (Int32.toNatClampNeg (u.2 61 i)) ∧ v.2 7 (3 * i + 2) = nI (Int32.toNatClampNeg (u.2 62 i))
  rw [a5, a6, a7, cl (show a < 2147483648 by omega), cl (show b < 2147483648 by omega), cl (show d < 2147483648 by omega)]
  exact ⟨a1, a2, a3, a4, rfl, rfl, rfl, a8, a9, a10⟩
/-- the page were this judge of this habit and so slow -/
def jP (P : Nat → Nat) (j hb sl : Nat) : Nat → Nat := pu (pu P (40 + j) hb) (43 + j) sl
theorem jP_ok {c jn j hb sl : Nat} {P : Nat → Nat} (h : PgOK c jn P) (hc : c ≤ 4) (hj : jn ≤ 3) (hjj : j < jn) (h1 : hb ≤ 3) (h2 : 1 ≤ sl) (h3 : sl ≤ 9) : PgOK c jn (jP P j hb sl) := (h.put hc hj (by omega) (by omega) (by omega) (by omega) (by omega) (by omega) (by omega) (by omega) (by omega)).put hc hj (by omega) (by omega) (by omega) (by omega) (by omega) (by omega) (by omega) (by omega) (by omega)
theorem pu_id (P : Nat → Nat) (k : Nat) : pu P k (P k) = P := by
  funext j
  unfold pu
  split
  · next h => rw [h]
  · rfl
theorem jP_h (P : Nat → Nat) (j hb : Nat) (hj : j < 3) : jP P j hb (P (43 + j)) = pu P (40 + j) hb := by
  have e : pu P (40 + j) hb (43 + j) = P (43 + j) := pu_n P (by omega)
  unfold jP
  rw [← e, pu_id]
theorem jP_s (P : Nat → Nat) (j sl : Nat) : jP P j (P (40 + j)) sl = pu P (43 + j) sl := by
  unfold jP
  rw [pu_id]
theorem jP_S (P : Nat → Nat) {j : Nat} (hj : j < 3) (hb sl : Nat) : stg (jP P j hb sl) 0 (jP P j hb sl 46) = stg P 0 (P 46) := by
  unfold jP
  rw [stg_pu46 _ (by omega), stg_pu46 _ (by omega)]
/-- all is as seen -/
def fit (P S A B D : Nat → Nat) (n : Nat) : Bool := al (fun i => decide ((hP P S (A i) (B i)).1 = D i)) n
theorem X_fits (F : Nat) (hF : 80 ≤ F) {c jn j hb sl n : Nat} {P A B D : Nat → Nat} (u : St) (hc4 : c ≤ 4) (hj3 : jn ≤ 3) (hPg : PgOK c jn P) (hX : CtX 0 c jn P u) (hjj : j < jn) (h1 : hb ≤ 3) (h2 : 1 ≤ sl) (h3 : sl ≤ 9) (hn : n ≤ 6) (hn' : u.1 29 = nI n) (hm : ∀ i, i < n → A i < c ∧ B i < jn ∧ 1 ≤ D i ∧ D i ≤ 3 ∧ u.2 60 i = nI (A i) ∧ u.2 61 i = nI (B i) ∧ u.2 62 i = nI (D i)) : ∃ u', pX1_fits F (nI j) (nI hb) (nI sl) u = some (if fit (jP P j hb sl) (stg P 0 (P 46)) A B D n = true then 1 else 0, u') ∧ eqT u u' := by
  unfold pX1_fits
  refine lq1_up (n := n) (I := fun i w => eqT u w ∧ ∀ o, o < i → decide ((hP (jP P j hb sl) (stg P 0 (P 46)) (A o) (B o)).1 = D o) = true) (Q := fun o => ∃ u' : St, o = some (if fit (jP P j hb sl) (stg P 0 (P 46)) A B D n = true then 1 else 0, u') ∧ eqT u u') ?_ ?_ n 0 F u (by omega) (by omega) ⟨eqT.rf, fun o ho => by omega⟩
  · rintro g w ⟨hw, ho⟩
    refine ⟨w, ?_, hw⟩
    have e : w.1 29 = nI n := (hw.1 29 (by omega)).trans hn'
    unfold bX1_fits_3
    rw [e, if_pos (yle (Nat.le_refl _) (by omega)), if_pos (show fit (jP P j hb sl) (stg P 0 (P 46)) A B D n = true from al_i ho)]
  · rintro g i w hi ⟨hw, ho⟩
    have e : w.1 29 = nI n := (hw.1 29 (by omega)).trans hn'
    obtain ⟨a1, a2, a3, a4, a5, a6, a7⟩ := hm i hi
    have b60 : w.2 60 i = nI (A i) := by rw [hw.2 60 (by omega)]; exact a5
    have b61 : w.2 61 i = nI (B i) := by rw [hw.2 61 (by omega)]; exact a6
    obtain ⟨y, y1, y2, y3⟩ := X_prepP F (by omega) w hc4 hj3 hPg (hX.eq (by omega) hw.x) a1 a2 (aw := 0) (by omega)
    have b61' : y.2 61 i = nI (B i) := by rw [y3.2 61 (by omega)]; exact b61
    obtain ⟨y', hy1, hy2, hy3⟩ : ∃ y', (∀ J : St → Option (Int32 × St), (if nI (B i) = nI j then vl (stf y 24 (nI hb)) (fun (u8 : St) => vl (stf u8 25 (nI sl)) (fun (u9 : St) => J u9)) else J y) = J y') ∧ TP (jP P j hb sl) (stg P 0 (P 46)) (A i) (B i) y' ∧ eqT y y' := by
      obtain ⟨t1, t2, t3, t4, t5, t6⟩ := y2
      have lo : ∀ k, k < 40 → jP P j hb sl k = P k := fun k hk => by
        unfold jP
        rw [pu_n _ (by omega), pu_n _ (by omega)]
      by_cases q : B i = j
      · refine ⟨stf (stf y 24 (nI hb)) 25 (nI sl), fun J => by rw [if_pos (by rw [q]), vl_e, vl_e], ⟨?_, ?_, ?_, t4, ?_, ?_⟩, fun k hk => by rw [stf_1, if_neg (by omega), stf_1, if_neg (by omega)], fun k hk => rfl⟩
        · rw [lo _ (by omega), lo _ (by omega)]; exact t1
        · rw [lo _ (by omega), lo _ (by omega)]; exact t2
        · rw [lo _ (by omega), lo _ (by omega)]; exact t3
        · rw [stf_1, if_neg (by omega), stf_1, if_pos rfl, q]
          unfold jP
          rw [pu_n _ (by omega), pu_s]
        · rw [stf_1, if_pos rfl, q]
          unfold jP
          rw [pu_s]
      · refine ⟨y, fun J => by rw [if_neg (neI q (by omega) (by omega))], ⟨?_, ?_, ?_, t4, ?_, ?_⟩, eqT.rf⟩
        · rw [lo _ (by omega), lo _ (by omega)]; exact t1
        · rw [lo _ (by omega), lo _ (by omega)]; exact t2
        · rw [lo _ (by omega), lo _ (by omega)]; exact t3
        · unfold jP
          rw [pu_n _ (by omega), pu_n _ (by omega)]
          exact t5
        · unfold jP
          rw [pu_n _ (by omega), pu_n _ (by omega)]
          exact t6
    have hQ := jP_ok hPg hc4 hj3 hjj h1 h2 h3
    obtain ⟨z, z1, -, z3⟩ := X_heldP F (by omega) y' hQ a1 a2 (fun m => stg_lt hPg 0 m) hy2
    have hbd := hP_bd hQ (stg P 0 (P 46)) a1 a2
    have ez := ((hw.tr y3).tr hy3).tr z3
    have b62 : z.2 62 i = nI (D i) := by rw [ez.2 62 (by omega)]; exact a7
    have hrun : bX1_fits_3 F (nI j) (nI hb) (nI sl) g (nI i) w = if (hP (jP P j hb sl) (stg P 0 (P 46)) (A i) (B i)).1 = D i then g (nI (i + 1)) z else some (0, z) := by
      have y1' : pX5_prepare F (nI (A i)) (nI (B i)) 0 w = some ((), y) := y1
      unfold bX1_fits_3
      rw [e, if_neg (nle hi (by omega)), gd_i (by omega) (by omega), gd_i (by omega) (by omega), cl (by omega), b60, b61, y1', bd_s, gd_i (by omega) (by omega), b61', jn_e, hy1, z1, bd_s, gd_i (by omega) (by omega), b62, ifeq (by omega) (by omega), nI_s]
    by_cases q : (hP (jP P j hb sl) (stg P 0 (P 46)) (A i) (B i)).1 = D i
    · refine Or.inr ⟨z, by rw [hrun, if_pos q], ez, fun o hoi => ?_⟩
      by_cases t : o = i
      · rw [t]; exact decide_eq_true q
      · exact ho o (by omega)
    · refine Or.inl ⟨z, ?_, ez⟩
      rw [hrun, if_neg q, if_neg (show ¬ fit (jP P j hb sl) (stg P 0 (P 46)) A B D n = true from fun t => by
        unfold fit at t
        rw [al_f hi (decide_eq_false q)] at t
        exact absurd t (by decide))]
theorem M_seen (F : Nat) (hF : 80 ≤ F) {c jn n : Nat} {P A B D : Nat → Nat} (v : St) (hc4 : c ≤ 4) (hj3 : jn ≤ 3) (hPg : PgOK c jn P) (hM : PgM 0 P v) (hE : MEnv 0 0 0 v) (hn : n ≤ 6) (hn' : v.1 21 = nI n) (hm : ∀ i, i < n → A i < c ∧ B i < jn ∧ 1 ≤ D i ∧ D i ≤ 3 ∧ v.2 7 (3 * i) = nI (A i) ∧ v.2 7 (3 * i + 1) = nI (B i) ∧ v.2 7 (3 * i + 2) = nI (D i)) : ∃ v', pX7_isAsSeen F v = some (if fit P (stg P 0 (P 46)) A B D n = true then 1 else 0, v') ∧ eqR v v' := by
  unfold pX7_isAsSeen
  refine lq2_up (n := n) (I := fun i r w => eqR v w ∧ r = if fit P (stg P 0 (P 46)) A B D i = true then 1 else 0) (Q := fun o => ∃ v' : St, o = some (if fit P (stg P 0 (P 46)) A B D n = true then 1 else 0, v') ∧ eqR v v') ?_ ?_ n 0 F 1 v (by omega) (by omega) ⟨eqR.rf, rfl⟩
  · rintro g r w ⟨hw, rfl⟩
    refine ⟨w, ?_, hw⟩
    have e : w.1 21 = nI n := (hw.1 21 (by omega)).trans hn'
    unfold bX7_isAsSeen_4
    rw [e, if_pos (yle (Nat.le_refl _) (by omega))]
    cases fit P (stg P 0 (P 46)) A B D n
    · rfl
    · rfl
  · rintro g i r w hi ⟨hw, rfl⟩
    have e : w.1 21 = nI n := (hw.1 21 (by omega)).trans hn'
    obtain ⟨a1, a2, a3, a4, a5, a6, a7⟩ := hm i hi
    have es : fit P (stg P 0 (P 46)) A B D (i + 1) = (fit P (stg P 0 (P 46)) A B D i && decide ((hP P (stg P 0 (P 46)) (A i) (B i)).1 = D i)) := rfl
    rcases hq : fit P (stg P 0 (P 46)) A B D i with _ | _
    · refine Or.inr ⟨0, w, ?_, hw, by rw [es, hq, Bool.false_and, if_neg (by decide)]⟩
      unfold bX7_isAsSeen_4
      rw [e, if_neg (nle hi (by omega)), nI_s]
      simp only [jn_e, Bool.false_eq_true, if_true, if_false]
    · obtain ⟨t, t1, t2⟩ := M_tries0 F hF w hc4 hj3 hPg (hw.pg hM) (hw.env hE) a1 a2
      have hbd := hP_bd hPg (stg P 0 (P 46)) a1 a2
      have b0 : w.2 7 (3 * i) = nI (A i) := by rw [hw.2.1 7 (by omega)]; exact a5
      have b1 : w.2 7 (3 * i + 1) = nI (B i) := by rw [hw.2.1 7 (by omega)]; exact a6
      have b2 : t.2 7 (3 * i + 2) = nI (D i) := by rw [t2.2.1 7 (by omega), hw.2.1 7 (by omega)]; exact a7
      refine Or.inr ⟨if (hP P (stg P 0 (P 46)) (A i) (B i)).1 = D i then 1 else 0, t, ?_, hw.tr t2, ?_⟩
      · unfold bX7_isAsSeen_4
        rw [e, if_neg (nle hi (by omega)), nI_s, if_pos rfl]
        simp only [jn_e, i10, tm3, nI_s, ta2]
        rw [gd_i (by omega) (by omega), gd_i (by omega) (by omega), cl (n := 3 * i) (by omega), cl (n := 3 * i + 1) (by omega), b0, b1, t1, bd_s, gd_i (by omega) (by omega), cl (by omega), b2, ifeq (by omega) (by omega)]
        by_cases q : (hP P (stg P 0 (P 46)) (A i) (B i)).1 = D i
        · rw [if_pos q, if_pos q]
        · rw [if_neg q, if_neg q]
      · rw [es, hq, Bool.true_and]
        by_cases q : (hP P (stg P 0 (P 46)) (A i) (B i)).1 = D i
        · rw [if_pos q, if_pos (decide_eq_true q)]
        · rw [if_neg q, if_neg (by rw [decide_eq_false q]; decide)]
/-- the habits that fit -/
def hbq (P A B D : Nat → Nat) (n j hb : Nat) : Bool := fit (pu P (40 + j) hb) (stg P 0 (P 46)) A B D n
def slq (P A B D : Nat → Nat) (n j sl : Nat) : Bool := fit (pu P (43 + j) sl) (stg P 0 (P 46)) A B D n
theorem X_habits (F : Nat) (hF : 80 ≤ F) {c jn j n : Nat} {P A B D : Nat → Nat} (u : St) (hc4 : c ≤ 4) (hj3 : jn ≤ 3) (hPg : PgOK c jn P) (hX : CtX 0 c jn P u) (hjj : j < jn) (hn : n ≤ 6) (hn' : u.1 29 = nI n) (hm : ∀ i, i < n → A i < c ∧ B i < jn ∧ 1 ≤ D i ∧ D i ≤ 3 ∧ u.2 60 i = nI (A i) ∧ u.2 61 i = nI (B i) ∧ u.2 62 i = nI (D i)) : ∃ u', pX6_habitsAsSeen F (nI j) u = some (bI (hbq P A B D n j) 4, u') ∧ eqT u u' := by
  unfold pX6_habitsAsSeen
  refine lq2_up (n := 4) (I := fun i x w => x = bI (hbq P A B D n j) i ∧ eqT u w) (Q := fun o => ∃ u' : St, o = some (bI (hbq P A B D n j) 4, u') ∧ eqT u u') ?_ ?_ 4 0 F 0 u (by omega) (by omega) ⟨rfl, eqT.rf⟩
  · rintro g x w ⟨rfl, hw⟩
    refine ⟨w, ?_, hw⟩
    unfold bX6_habitsAsSeen_4
    rw [if_pos (show (4 : Int32) ≤ nI 4 by decide)]
  · rintro g i x w hi ⟨rfl, hw⟩
    have hX' := hX.eq (by omega) hw.x
    obtain ⟨p1, p2, p3⟩ := hPg.2.2.2.2.1 j hjj
    have e8 : w.2 8 j = nI (P (43 + j)) := (hX'.2.2.2.2.2.2.1 j hjj).2
    obtain ⟨y, y1, y2⟩ := X_fits F hF (hb := i) (sl := P (43 + j)) w hc4 hj3 hPg hX' hjj (by omega) p2 p3 hn ((hw.1 29 (by omega)).trans hn') (fun o ho => by
      obtain ⟨a1, a2, a3, a4, a5, a6, a7⟩ := hm o ho
      exact ⟨a1, a2, a3, a4, by rw [hw.2 60 (by omega)]; exact a5, by rw [hw.2 61 (by omega)]; exact a6, by rw [hw.2 62 (by omega)]; exact a7⟩)
    rw [jP_h P j i (by omega)] at y1
    refine Or.inr ⟨bI (hbq P A B D n j) (i + 1), y, ?_, rfl, hw.tr y2⟩
    unfold bX6_habitsAsSeen_4
    rw [if_neg (show ¬ (4 : Int32) ≤ nI i from by rw [L4]; exact nle hi (by omega)), gd_i (by omega) (by omega), cl (by omega), e8, y1, bd_s]
    simp only [jn_e, vl_e, nI_s]
    rw [bI]
    by_cases q : hbq P A B D n j i = true
    · rw [if_pos q, if_pos (show fit (pu P (40 + j) i) (stg P 0 (P 46)) A B D n = true from q), if_neg (show ¬ (1 : Int32) = 0 by decide)]
    · rw [if_neg q, if_neg (show ¬ fit (pu P (40 + j) i) (stg P 0 (P 46)) A B D n = true from q), if_pos rfl]
theorem X_slows (F : Nat) (hF : 80 ≤ F) {c jn j n : Nat} {P A B D : Nat → Nat} (u : St) (hc4 : c ≤ 4) (hj3 : jn ≤ 3) (hPg : PgOK c jn P) (hX : CtX 0 c jn P u) (hjj : j < jn) (hn : n ≤ 6) (hn' : u.1 29 = nI n) (hm : ∀ i, i < n → A i < c ∧ B i < jn ∧ 1 ≤ D i ∧ D i ≤ 3 ∧ u.2 60 i = nI (A i) ∧ u.2 61 i = nI (B i) ∧ u.2 62 i = nI (D i)) : ∃ u', lq2 (bX6_slows_17 F (nI j)) F 0 1 u = some (bI (fun k => decide (1 ≤ k) && slq P A B D n j k) 10, u') ∧ eqT u u' := by
  have or0 : ∀ x : Int32, x ||| 0 = x := fun x => by
    apply Int32.toBitVec_inj.mp
    rw [Int32.toBitVec_or]
    simp
  refine lq2_up (n := 10) (I := fun i x w => 1 ≤ i ∧ x = bI (fun k => decide (1 ≤ k) && slq P A B D n j k) i ∧ eqT u w) (Q := fun o => ∃ u' : St, o = some (bI (fun k => decide (1 ≤ k) && slq P A B D n j k) 10, u') ∧ eqT u u') ?_ ?_ 9 1 F 0 u (by omega) (by omega) ⟨Nat.le_refl _, by rw [bI, if_neg (by simp)]; show (0 : Int32) = 0 ||| 0; decide, eqT.rf⟩
  · rintro g x w ⟨-, rfl, hw⟩
    refine ⟨w, ?_, hw⟩
    unfold bX6_slows_17
    rw [if_pos (show (9 : Int32) < nI 10 by decide)]
  · rintro g i x w hi ⟨h1, rfl, hw⟩
    have hX' := hX.eq (by omega) hw.x
    obtain ⟨p1, p2, p3⟩ := hPg.2.2.2.2.1 j hjj
    have e7 : w.2 7 j = nI (P (40 + j)) := (hX'.2.2.2.2.2.2.1 j hjj).1
    obtain ⟨y, y1, y2⟩ := X_fits F hF (hb := P (40 + j)) (sl := i) w hc4 hj3 hPg hX' hjj p1 h1 (by omega) hn ((hw.1 29 (by omega)).trans hn') (fun o ho => by
      obtain ⟨a1, a2, a3, a4, a5, a6, a7⟩ := hm o ho
      exact ⟨a1, a2, a3, a4, by rw [hw.2 60 (by omega)]; exact a5, by rw [hw.2 61 (by omega)]; exact a6, by rw [hw.2 62 (by omega)]; exact a7⟩)
    rw [jP_s P j i] at y1
    refine Or.inr ⟨bI (fun k => decide (1 ≤ k) && slq P A B D n j k) (i + 1), y, ?_, by omega, rfl, hw.tr y2⟩
    unfold bX6_slows_17
    rw [if_neg (show ¬ (9 : Int32) < nI i from by rw [L9]; exact nlt (by omega) (by omega)), gd_i (by omega) (by omega), cl (by omega), e7, y1, bd_s]
    simp only [jn_e, vl_e, nI_s]
    rw [bI]
    by_cases q : slq P A B D n j i = true
    · rw [if_pos (show (decide (1 ≤ i) && slq P A B D n j i) = true from by rw [q, decide_eq_true h1]; rfl), if_pos (show fit (pu P (43 + j) i) (stg P 0 (P 46)) A B D n = true from q), if_neg (show ¬ (1 : Int32) = 0 by decide)]
    · rw [if_neg (show ¬ (decide (1 ≤ i) && slq P A B D n j i) = true from by rw [Bool.eq_false_iff.mpr q, Bool.and_false]; decide), if_neg (show ¬ fit (pu P (43 + j) i) (stg P 0 (P 46)) A B D n = true from q), if_pos rfl, or0]
/-- one number of the page stands aside -/
def eqH (z : Nat) (v v' : St) : Prop := (∀ k, k ≠ 18 → v'.1 k = v.1 k) ∧ (∀ k, k ≠ 0 → k ≠ 8 → v'.2 k = v.2 k) ∧ ∀ i, i ≠ z → (i < 272 ∨ 408 ≤ i) → v'.2 0 i = v.2 0 i
theorem eqH.r {z : Nat} {u w x : St} (h : eqH z u w) (h2 : eqR w x) : eqH z u x := ⟨fun k q => (h2.1 k q).trans (h.1 k q), fun k q q' => (h2.2.1 k q).trans (h.2.1 k q q'), fun k q q' => (h2.2.2 k q').trans (h.2.2 k q q')⟩
theorem eqH.env {z : Nat} {v v' : St} (h : eqH z v v') (hE : MEnv 0 0 0 v) : MEnv 0 0 0 v' := by
  obtain ⟨e1, e2, e3, e4, e5, e6, e7⟩ := hE
  exact ⟨e1, (h.1 15 (by omega)).trans e2, Or.inl rfl, (h.1 17 (by omega)).trans e4, e5, e6, (h.2.1 1 (by omega) (by omega)).trans e7⟩
theorem eqH.st {z : Nat} {v w : St} (h : eqH z v w) (hz : z < 68) (x : Int32) : eqH z v (sta w 0 (nI z) x) := ⟨h.1, fun k q q' => by rw [sta_m _ _ _ q]; exact h.2.1 k q q', fun i q q' => by rw [sta_h _ _ (by omega), if_neg q]; exact h.2.2 i q q'⟩
theorem eqH.pg {z x : Nat} {v w : St} {P : Nat → Nat} (h : eqH z v w) (hz : z < 68) (hM : PgM 0 P v) : PgM 0 (pu P z x) (sta w 0 (nI z) (nI x)) := fun k hk => by
  rw [sta_h _ _ (by omega)]
  unfold pu
  by_cases q : k = z
  · rw [if_pos (by omega), if_pos q]
  · rw [if_neg (by omega), if_neg q, h.2.2 _ (by omega) (by omega)]
    exact hM k hk
theorem eqH.end {z : Nat} {v w : St} (h : eqH z v w) (hz : z < 68) : eqM v (sta w 0 (nI z) (v.2 0 z)) := by
  refine ⟨fun i hi => ?_, ⟨h.1 _ (by omega), h.1 _ (by omega), h.1 _ (by omega), h.1 _ (by omega), h.1 _ (by omega), h.1 _ (by omega), h.1 _ (by omega), h.1 _ (by omega)⟩, fun k hk => by rw [sta_m _ _ _ (by omega)]; exact h.2.1 k (by omega) (by omega)⟩
  rw [sta_h _ _ (by omega)]
  by_cases q : i = z
  · rw [if_pos q, q]
  · rw [if_neg q]
    exact h.2.2 i q (by omega)
theorem M_habits (F : Nat) (hF : 80 ≤ F) {c jn j n : Nat} {P A B D : Nat → Nat} (v : St) (hc4 : c ≤ 4) (hj3 : jn ≤ 3) (hPg : PgOK c jn P) (hM : PgM 0 P v) (hE : MEnv 0 0 0 v) (h0 : v.1 0 = nI c) (hjj : j < jn) (hn : n ≤ 6) (hn' : v.1 21 = nI n) (hm : ∀ i, i < n → A i < c ∧ B i < jn ∧ 1 ≤ D i ∧ D i ≤ 3 ∧ v.2 7 (3 * i) = nI (A i) ∧ v.2 7 (3 * i + 1) = nI (B i) ∧ v.2 7 (3 * i + 2) = nI (D i)) : ∃ v', pX7_habitsOf F (nI j) v = some (bI (hbq P A B D n j) 4, v') ∧ (∀ hb, hb < 4 → ∀ cc, cc < c → v'.2 8 (4 * hb + cc) = nI (hP (pu P (40 + j) hb) (stg P 0 (P 46)) cc j).1) ∧ eqM v v' := by
  unfold pX7_habitsOf
  rw [at40, gd_i (by omega) (by omega), vl_e, jn_e, cl (by omega)]
  refine lq2_up (n := 4) (I := fun i x w => x = bI (hbq P A B D n j) i ∧ (∀ hb, hb < i → ∀ cc, cc < c → w.2 8 (4 * hb + cc) = nI (hP (pu P (40 + j) hb) (stg P 0 (P 46)) cc j).1) ∧ eqH (40 + j) v w) (Q := fun o => ∃ v' : St, o = some (bI (hbq P A B D n j) 4, v') ∧ (∀ hb, hb < 4 → ∀ cc, cc < c → v'.2 8 (4 * hb + cc) = nI (hP (pu P (40 + j) hb) (stg P 0 (P 46)) cc j).1) ∧ eqM v v') ?_ ?_ 4 0 F 0 v (by omega) (by omega) ⟨rfl, fun hb h => by omega, fun _ _ => rfl, fun _ _ _ => rfl, fun _ _ _ => rfl⟩
  · rintro g x w ⟨rfl, ht, hw⟩
    refine ⟨sta w 0 (nI (40 + j)) (v.2 0 (40 + j)), ?_, fun hb h cc hcc => by rw [sta_m _ _ _ (by omega)]; exact ht hb h cc hcc, hw.end (by omega)⟩
    unfold bX7_habitsOf_15
    rw [if_pos (show (4 : Int32) ≤ nI 4 by decide)]
    unfold jX7_habitsOf_94
    rw [at40, gd_i (by omega) (by omega), vl_e]
  · rintro g i x w hi ⟨rfl, ht, hw⟩
    have hk : PgOK c jn (pu P (40 + j) i) := hPg.put hc4 hj3 (by omega) (by omega) (by omega) (by omega) (by omega) (by omega) (by omega) (by omega) (by omega)
    have hS : stg (pu P (40 + j) i) 0 (pu P (40 + j) i 46) = stg P 0 (P 46) := stg_pu46 P (by omega) 0
    have w1 := hw.st (show 40 + j < 68 by omega) (nI i)
    have m1 : PgM 0 (pu P (40 + j) i) (sta w 0 (nI (40 + j)) (nI i)) := hw.pg (by omega) hM
    obtain ⟨y, y1, y2⟩ := M_seen F hF (A := A) (B := B) (D := D) _ hc4 hj3 hk m1 (w1.env hE) hn ((w1.1 21 (by omega)).trans hn') (fun o ho => by
      obtain ⟨a1, a2, a3, a4, a5, a6, a7⟩ := hm o ho
      rw [w1.2.1 7 (by omega) (by omega)]
      exact ⟨a1, a2, a3, a4, a5, a6, a7⟩)
    rw [hS] at y1
    have w2 := w1.r y2
    have my := y2.pg m1
    have inner : ∀ J : St → Option (Int32 × St), ∃ t, lq1 (bX7_habitsOf_53 F (nI j) (nI i) J) F 0 y = J t ∧ (∀ cc, cc < c → t.2 8 (4 * i + cc) = nI (hP (pu P (40 + j) i) (stg P 0 (P 46)) cc j).1) ∧ (∀ k, (k < 4 * i ∨ 4 * i + 4 ≤ k) → t.2 8 k = y.2 8 k) ∧ eqH (40 + j) v t := fun J => by
      refine lq1_up (n := c) (I := fun o t => (∀ cc, cc < o → t.2 8 (4 * i + cc) = nI (hP (pu P (40 + j) i) (stg P 0 (P 46)) cc j).1) ∧ (∀ k, (k < 4 * i ∨ 4 * i + 4 ≤ k) → t.2 8 k = y.2 8 k) ∧ eqH (40 + j) v t ∧ PgM 0 (pu P (40 + j) i) t) (Q := fun o => ∃ t : St, o = J t ∧ (∀ cc, cc < c → t.2 8 (4 * i + cc) = nI (hP (pu P (40 + j) i) (stg P 0 (P 46)) cc j).1) ∧ (∀ k, (k < 4 * i ∨ 4 * i + 4 ≤ k) → t.2 8 k = y.2 8 k) ∧ eqH (40 + j) v t) ?_ ?_ c 0 F y (by omega) (by omega) ⟨fun cc h => by omega, fun _ _ => rfl, w2, my⟩
      · rintro g' t ⟨t1, t2, t3, t4⟩
        refine ⟨t, ?_, t1, t2, t3⟩
        have e0 : t.1 0 = nI c := (t3.1 0 (by omega)).trans h0
        unfold bX7_habitsOf_53
        rw [e0, if_pos (yle (Nat.le_refl _) (by omega))]
      · rintro g' o t ho ⟨t1, t2, t3, t4⟩
        have e0 : t.1 0 = nI c := (t3.1 0 (by omega)).trans h0
        obtain ⟨r, r1, r2⟩ := M_tries0 F hF (cc := o) t hc4 hj3 hk t4 (t3.env hE) ho hjj
        rw [hS] at r1
        have q3 := t3.r r2
        refine Or.inr ⟨sta r 8 (nI (4 * i + o)) (nI (hP (pu P (40 + j) i) (stg P 0 (P 46)) o j).1), ?_, fun cc hcc => ?_, fun k hk' => ?_, ⟨q3.1, fun k a b => by rw [sta_m _ _ _ b]; exact q3.2.1 k a b, fun k a b => by rw [sta_m _ _ _ (by omega)]; exact q3.2.2 k a b⟩, fun k hk' => by rw [sta_m _ _ _ (by omega)]; exact (r2.pg t4) k hk'⟩
        · unfold bX7_habitsOf_53
          rw [e0, if_neg (nle ho (by omega)), r1, bd_s, tm4, nI_add, nI_s, gd_i (by omega) (by omega), vl_e]
        · rw [sta_h _ _ (by omega)]
          by_cases q : cc = o
          · rw [if_pos (by omega), q]
          · rw [if_neg (by omega), r2.2.1 8 (by omega)]
            exact t1 cc (by omega)
        · rw [sta_h _ _ (by omega), if_neg (by omega), r2.2.1 8 (by omega)]
          exact t2 k hk'
    obtain ⟨t, t1, t2, t3, t4⟩ := inner (jX7_habitsOf_88 F (nI i) g (bI (hbq P A B D n j) (i + 1)))
    refine Or.inr ⟨bI (hbq P A B D n j) (i + 1), t, ?_, rfl, fun hb h cc hcc => ?_, t4⟩
    · unfold bX7_habitsOf_15
      rw [if_neg (show ¬ (4 : Int32) ≤ nI i from by rw [L4]; exact nle hi (by omega)), at40, gd_i (by omega) (by omega), vl_e, y1, bd_s]
      simp only [jn_e, vl_e]
      rw [bI] at t1
      by_cases q : hbq P A B D n j i = true
      · rw [if_pos q] at t1
        rw [if_pos (show fit (pu P (40 + j) i) (stg P 0 (P 46)) A B D n = true from q), if_neg (show ¬ (1 : Int32) = 0 by decide), t1]
        unfold jX7_habitsOf_88
        rw [nI_s, bI, if_pos q]
      · rw [if_neg q] at t1
        rw [if_neg (show ¬ fit (pu P (40 + j) i) (stg P 0 (P 46)) A B D n = true from q), if_pos rfl, t1]
        unfold jX7_habitsOf_88
        rw [nI_s, bI, if_neg q]
    · by_cases q : hb = i
      · rw [q]; exact t2 cc hcc
      · rw [t3 _ (by omega), y2.2.1 8 (by omega), sta_m _ _ _ (by omega)]
        exact ht hb (by omega) cc hcc
theorem M_slows (F : Nat) (hF : 80 ≤ F) {c jn j n : Nat} {P A B D : Nat → Nat} (v : St) (hc4 : c ≤ 4) (hj3 : jn ≤ 3) (hPg : PgOK c jn P) (hM : PgM 0 P v) (hE : MEnv 0 0 0 v) (hjj : j < jn) (hn : n ≤ 6) (hn' : v.1 21 = nI n) (hm : ∀ i, i < n → A i < c ∧ B i < jn ∧ 1 ≤ D i ∧ D i ≤ 3 ∧ v.2 7 (3 * i) = nI (A i) ∧ v.2 7 (3 * i + 1) = nI (B i) ∧ v.2 7 (3 * i + 2) = nI (D i)) : ∃ v', lq2 (bX7_slows_25 F (nI j) (jX7_slows_67 F (nI j) (v.2 0 (43 + j)))) F 0 1 v = some (bI (fun k => decide (1 ≤ k) && slq P A B D n j k) 10, v') ∧ eqM v v' := by
  refine lq2_up (n := 10) (I := fun i x w => 1 ≤ i ∧ x = bI (fun k => decide (1 ≤ k) && slq P A B D n j k) i ∧ eqH (43 + j) v w) (Q := fun o => ∃ v' : St, o = some (bI (fun k => decide (1 ≤ k) && slq P A B D n j k) 10, v') ∧ eqM v v') ?_ ?_ 9 1 F 0 v (by omega) (by omega) ⟨Nat.le_refl _, by rw [bI, if_neg (by simp)]; show (0 : Int32) = 0 ||| 0; decide, fun _ _ => rfl, fun _ _ _ => rfl, fun _ _ _ => rfl⟩
  · rintro g x w ⟨-, rfl, hw⟩
    refine ⟨sta w 0 (nI (43 + j)) (v.2 0 (43 + j)), ?_, hw.end (by omega)⟩
    unfold bX7_slows_25
    rw [if_pos (show (9 : Int32) < nI 10 by decide)]
    unfold jX7_slows_67
    rw [at43, gd_i (by omega) (by omega), vl_e]
  · rintro g i x w hi ⟨h1, rfl, hw⟩
    have hk : PgOK c jn (pu P (43 + j) i) := hPg.put hc4 hj3 (by omega) (by omega) (by omega) (by omega) (by omega) (by omega) (by omega) (by omega) (by omega)
    have hS : stg (pu P (43 + j) i) 0 (pu P (43 + j) i 46) = stg P 0 (P 46) := stg_pu46 P (by omega) 0
    have w1 := hw.st (show 43 + j < 68 by omega) (nI i)
    have m1 : PgM 0 (pu P (43 + j) i) (sta w 0 (nI (43 + j)) (nI i)) := hw.pg (by omega) hM
    obtain ⟨y, y1, y2⟩ := M_seen F hF (A := A) (B := B) (D := D) _ hc4 hj3 hk m1 (w1.env hE) hn ((w1.1 21 (by omega)).trans hn') (fun o ho => by
      obtain ⟨a1, a2, a3, a4, a5, a6, a7⟩ := hm o ho
      rw [w1.2.1 7 (by omega) (by omega)]
      exact ⟨a1, a2, a3, a4, a5, a6, a7⟩)
    rw [hS] at y1
    refine Or.inr ⟨bI (fun k => decide (1 ≤ k) && slq P A B D n j k) (i + 1), y, ?_, by omega, rfl, w1.r y2⟩
    unfold bX7_slows_25
    rw [if_neg (show ¬ (9 : Int32) < nI i from by rw [L9]; exact nlt (by omega) (by omega)), at43, gd_i (by omega) (by omega), vl_e, y1, bd_s]
    simp only [jn_e, vl_e, nI_s]
    rw [bI]
    by_cases q : slq P A B D n j i = true
    · rw [if_pos (show (decide (1 ≤ i) && slq P A B D n j i) = true from by rw [q, decide_eq_true h1]; rfl), if_pos (show fit (pu P (43 + j) i) (stg P 0 (P 46)) A B D n = true from q), if_neg (show ¬ (1 : Int32) = 0 by decide)]
    · rw [if_neg (show ¬ (decide (1 ≤ i) && slq P A B D n j i) = true from by rw [Bool.eq_false_iff.mpr q, Bool.and_false]; decide), if_neg (show ¬ fit (pu P (43 + j) i) (stg P 0 (P 46)) A B D n = true from q), if_pos rfl]
theorem st_habits (F : Nat) (hLF : 200 ≤ F) {u v : St} (h : RR u v) (x0 : Int32) : ∃ (r : Int32) (u' v' : St), pX6_habits F x0 u = some (r, u') ∧ pX7_habits F x0 v = some (r, v') ∧ RR u' v' := by
  obtain ⟨c, jn, P, ⟨c1, c2, c3, hX, c5, c6, c7⟩, i0, i1, hs, ht, hw, htn, hsh, hc⟩ := id h
  obtain ⟨n, A, B, D, n1, n2, n3, n4⟩ := hs.fn c1 c2
  unfold pX6_habits pX7_habits
  rcases two_judge x0 c2 hX.2.1 c6 with ⟨b, b1, rfl, k, k'⟩ | ⟨k, k'⟩
  · obtain ⟨u', g1, g2⟩ := X_habits F (by omega) (A := A) (B := B) (D := D) u c1 c2 c3 hX b1 n1 n2 (fun i hi => by
      obtain ⟨a1, a2, a3, a4, a5, a6, a7, -⟩ := n4 i hi
      exact ⟨a1, a2, a3, a4, a5, a6, a7⟩)
    obtain ⟨v', m1, -, m2⟩ := M_habits F (by omega) (A := A) (B := B) (D := D) v c1 c2 c3 c7 (menv0 hc) c5 b1 n1 n3 (fun i hi => by
      obtain ⟨a1, a2, a3, a4, -, -, -, a5, a6, a7⟩ := n4 i hi
      exact ⟨a1, a2, a3, a4, a5, a6, a7⟩)
    rw [k, k', bd_s, bd_s, i10, i10, g1, m1, bd_s, bd_s]
    exact ⟨_, _, _, rfl, rfl, h.eq g2.x m2⟩
  · rw [k, k', bd_s, bd_s, i00, i00]
    exact ⟨_, _, _, rfl, rfl, h⟩
theorem step_habits {u v : St} (h : RR u v) (x0 : Int32) : ∃ (r : Int32) (u' v' : St), pX6_habits LF x0 u = some (r, u') ∧ pX7_habits LF x0 v = some (r, v') ∧ RR u' v' := st_habits LF (by decide) h x0
theorem st_slows (F : Nat) (hLF : 200 ≤ F) {u v : St} (h : RR u v) (x0 : Int32) : ∃ (r : Int32) (u' v' : St), pX6_slows F x0 u = some (r, u') ∧ pX7_slows F x0 v = some (r, v') ∧ RR u' v' := by
  obtain ⟨c, jn, P, ⟨c1, c2, c3, hX, c5, c6, c7⟩, i0, i1, hs, ht, hw, htn, hsh, hc⟩ := id h
  obtain ⟨n, A, B, D, n1, n2, n3, n4⟩ := hs.fn c1 c2
  unfold pX6_slows pX7_slows
  rcases two_judge x0 c2 hX.2.1 c6 with ⟨b, b1, rfl, k, k'⟩ | ⟨k, k'⟩
  · obtain ⟨u', g1, g2⟩ := X_slows F (by omega) (A := A) (B := B) (D := D) u c1 c2 c3 hX b1 n1 n2 (fun i hi => by
      obtain ⟨a1, a2, a3, a4, a5, a6, a7, -⟩ := n4 i hi
      exact ⟨a1, a2, a3, a4, a5, a6, a7⟩)
    obtain ⟨v', m1, m2⟩ := M_slows F (by omega) (A := A) (B := B) (D := D) v c1 c2 c3 c7 (menv0 hc) b1 n1 n3 (fun i hi => by
      obtain ⟨a1, a2, a3, a4, -, -, -, a5, a6, a7⟩ := n4 i hi
      exact ⟨a1, a2, a3, a4, a5, a6, a7⟩)
    rw [k, k', bd_s, bd_s, i10, i10, at43, gd_i (by omega) (by omega), vl_e, jn_e, cl (by omega), g1, m1]
    exact ⟨_, _, _, rfl, rfl, h.eq g2.x m2⟩
  · rw [k, k', bd_s, bd_s, i00, i00]
    exact ⟨_, _, _, rfl, rfl, h⟩
theorem step_slows {u v : St} (h : RR u v) (x0 : Int32) : ∃ (r : Int32) (u' v' : St), pX6_slows LF x0 u = some (r, u') ∧ pX7_slows LF x0 v = some (r, v') ∧ RR u' v' := st_slows LF (by decide) h x0
end
section
/-! PURE: ask -/
def kc (q : Nat → Bool) (V : Nat → Nat) (r : Nat) : Nat := cn (fun b => q b && decide (V b = r)) 4
def xmx (q : Nat → Bool) (V : Nat → Nat) : Nat → Nat
  | 0 => 0
  | i + 1 => if xmx q V i < kc q V (i + 1) then kc q V (i + 1) else xmx q V i
def mka (q : Nat → Bool) (V : Nat → Nat) (a : Nat) : Nat := if q a = true then cn (fun b => q b && decide (V a = V b)) 4 else 0
def mmx (q : Nat → Bool) (V : Nat → Nat) : Nat → Nat
  | 0 => 0
  | a + 1 => if mka q V a ≤ mmx q V a then mmx q V a else mka q V a
/-- functions of four values -/
def f4 {α : Type} (a b c d : α) (i : Nat) : α := if i = 0 then a else if i = 1 then b else if i = 2 then c else d
theorem xm_mm4 : ∀ (b0 b1 b2 b3 : Bool) (v0 v1 v2 v3 : Fin 3), xmx (f4 b0 b1 b2 b3) (f4 (v0.val + 1) (v1.val + 1) (v2.val + 1) (v3.val + 1)) 3 = mmx (f4 b0 b1 b2 b3) (f4 (v0.val + 1) (v1.val + 1) (v2.val + 1) (v3.val + 1)) 4 := by decide +kernel
theorem kc_c {q q' : Nat → Bool} {V V' : Nat → Nat} (hq : ∀ i, i < 4 → q i = q' i) (hV : ∀ i, i < 4 → V i = V' i) (r : Nat) : kc q V r = kc q' V' r := cn_c 4 (fun i hi => by show (q i && decide (V i = r)) = (q' i && decide (V' i = r)); rw [hq i hi, hV i hi])
theorem xmx_c {q q' : Nat → Bool} {V V' : Nat → Nat} (hq : ∀ i, i < 4 → q i = q' i) (hV : ∀ i, i < 4 → V i = V' i) : ∀ n, xmx q V n = xmx q' V' n
  | 0 => rfl
  | n + 1 => by
    unfold xmx
    rw [xmx_c hq hV n, kc_c hq hV]
theorem mmx_c {q q' : Nat → Bool} {V V' : Nat → Nat} (hq : ∀ i, i < 4 → q i = q' i) (hV : ∀ i, i < 4 → V i = V' i) : ∀ n, n ≤ 4 → mmx q V n = mmx q' V' n
  | 0, _ => rfl
  | n + 1, h => by
    have e : mka q V n = mka q' V' n := by
      unfold mka
      rw [hq n (by omega), cn_c 4 (fun i hi => by show (q i && decide (V n = V i)) = (q' i && decide (V' n = V' i)); rw [hq i hi, hV i hi, hV n (by omega)])]
    unfold mmx
    rw [mmx_c hq hV n (by omega), e]
theorem f4_e {α : Type} (f : Nat → α) : ∀ i, i < 4 → f i = f4 (f 0) (f 1) (f 2) (f 3) i
  | 0, _ => rfl
  | 1, _ => rfl
  | 2, _ => rfl
  | 3, _ => rfl
  | n + 4, h => by omega
theorem xm_mm (q : Nat → Bool) (V : Nat → Nat) (hV : ∀ i, i < 4 → 1 ≤ V i ∧ V i ≤ 3) : xmx q V 3 = mmx q V 4 := by
  have h0 := hV 0 (by omega)
  have h1 := hV 1 (by omega)
  have h2 := hV 2 (by omega)
  have h3 := hV 3 (by omega)
  have e := xm_mm4 (q 0) (q 1) (q 2) (q 3) ⟨V 0 - 1, by omega⟩ ⟨V 1 - 1, by omega⟩ ⟨V 2 - 1, by omega⟩ ⟨V 3 - 1, by omega⟩
  simp only [Nat.sub_add_cancel h0.1, Nat.sub_add_cancel h1.1, Nat.sub_add_cancel h2.1, Nat.sub_add_cancel h3.1] at e
  rw [xmx_c (f4_e q) (f4_e V) 3, e, mmx_c (f4_e q) (f4_e V) 4 (Nat.le_refl _)]
theorem kc_le (q : Nat → Bool) (V : Nat → Nat) (r : Nat) : kc q V r ≤ 4 := cn_le _ 4
theorem xmx_le (q : Nat → Bool) (V : Nat → Nat) : ∀ n, xmx q V n ≤ 4
  | 0 => by unfold xmx; omega
  | n + 1 => by
    have h1 := xmx_le q V n
    have h2 := kc_le q V (n + 1)
    unfold xmx
    split <;> omega
theorem mka_le (q : Nat → Bool) (V : Nat → Nat) (a : Nat) : mka q V a ≤ 4 := by
  unfold mka
  split
  · exact cn_le _ 4
  · omega
theorem mmx_le (q : Nat → Bool) (V : Nat → Nat) : ∀ n, mmx q V n ≤ 4
  | 0 => by unfold mmx; omega
  | n + 1 => by
    have h1 := mmx_le q V n
    have h2 := mka_le q V n
    unfold mmx
    split <;> omega
theorem bN_t (q : Nat → Bool) : ∀ i, i < 4 → (bN q 4).testBit i = q i
  | 0, _ => by
    simp only [bN]
    cases q 0 <;> cases q 1 <;> cases q 2 <;> cases q 3 <;> decide
  | 1, _ => by
    simp only [bN]
    cases q 0 <;> cases q 1 <;> cases q 2 <;> cases q 3 <;> decide
  | 2, _ => by
    simp only [bN]
    cases q 0 <;> cases q 1 <;> cases q 2 <;> cases q 3 <;> decide
  | 3, _ => by
    simp only [bN]
    cases q 0 <;> cases q 1 <;> cases q 2 <;> cases q 3 <;> decide
  | n + 4, h => by omega
theorem bit_0 (q : Nat → Bool) {i : Nat} (hi : i < 4) : (((bI q 4 >>> (nI i &&& 31)) &&& 1) = 0) = (q i = false) := by
  obtain ⟨k1, k2, -⟩ := bI_k q 4 (Nat.le_refl _)
  rw [k1, propext (sh_b0 (bN q 4) k2 i hi), bN_t q i hi]
theorem bit_1 (q : Nat → Bool) {i : Nat} (hi : i < 4) : (((bI q 4 >>> (nI i &&& 31)) &&& 1) = 1) = (q i = true) := by
  obtain ⟨k1, k2, -⟩ := bI_k q 4 (Nat.le_refl _)
  rw [k1, propext (sh_b1 (bN q 4) k2 i hi), bN_t q i hi]
/-- the verdict were the judge of a habit -/
def vH (P : Nat → Nat) (cc j hb : Nat) : Nat := (hP (pu P (40 + j) hb) (stg P 0 (P 46)) cc j).1
theorem hb_ok {c jn j hb : Nat} {P : Nat → Nat} (h : PgOK c jn P) (hc : c ≤ 4) (hj : jn ≤ 3) (hjj : j < jn) (h1 : hb < 4) : PgOK c jn (pu P (40 + j) hb) := h.put hc hj (by omega) (by omega) (by omega) (by omega) (by omega) (by omega) (by omega) (by omega) (by omega)
theorem X_worst (F : Nat) (hF : 80 ≤ F) {c jn j cc : Nat} {P : Nat → Nat} (q : Nat → Bool) (u : St) (hc4 : c ≤ 4) (hj3 : jn ≤ 3) (hPg : PgOK c jn P) (hX : CtX 0 c jn P u) (hcc : cc < c) (hjj : j < jn) : ∃ u', pX6_leftAtTheWorst F (nI cc) (nI j) (bI q 4) u = some (nI (xmx q (vH P cc j) 3), u') ∧ eqT u u' := by
  unfold pX6_leftAtTheWorst
  refine lq2_up (n := 4) (I := fun i x w => 1 ≤ i ∧ x = nI (xmx q (vH P cc j) (i - 1)) ∧ eqT u w) (Q := fun o => ∃ u' : St, o = some (nI (xmx q (vH P cc j) 3), u') ∧ eqT u u') ?_ ?_ 3 1 F 0 u (by omega) (by omega) ⟨Nat.le_refl _, rfl, eqT.rf⟩
  · rintro g x w ⟨-, rfl, hw⟩
    refine ⟨w, ?_, hw⟩
    unfold bX6_leftAtTheWorst_6
    rw [if_pos (show (3 : Int32) < nI 4 by decide)]
  · rintro g r x w hr ⟨h1, rfl, hw⟩
    have inner : ∀ J : Int32 → St → Option (Int32 × St), ∃ y, lq2 (bX6_leftAtTheWorst_18 F (nI cc) (nI j) (bI q 4) (nI r) J) F 0 0 w = J (nI (kc q (vH P cc j) r)) y ∧ eqT u y := fun J => by
      refine lq2_up (n := 4) (I := fun i x y => x = nI (cn (fun b => q b && decide (vH P cc j b = r)) i) ∧ eqT u y) (Q := fun o => ∃ y : St, o = J (nI (kc q (vH P cc j) r)) y ∧ eqT u y) ?_ ?_ 4 0 F 0 w (by omega) (by omega) ⟨rfl, hw⟩
      · rintro g' x y ⟨rfl, hy⟩
        refine ⟨y, ?_, hy⟩
        unfold bX6_leftAtTheWorst_18
        rw [if_pos (show (4 : Int32) ≤ nI 4 by decide)]
        rfl
      · rintro g' i x y hi ⟨rfl, hy⟩
        obtain ⟨z, z1, z2, z3⟩ := X_prepP F (by omega) y hc4 hj3 hPg (hX.eq (by omega) hy.x) hcc hjj (aw := 0) (by omega)
        have z1' : pX5_prepare F (nI cc) (nI j) 0 y = some ((), z) := z1
        have hz : eqT z (stf z 24 (nI i)) := ⟨fun k hk => by rw [stf_1, if_neg (by omega)], fun k hk => rfl⟩
        have ez := (hy.tr z3).tr hz
        have pre : bX6_leftAtTheWorst_18 F (nI cc) (nI j) (bI q 4) (nI r) J g' (nI (cn (fun b => q b && decide (vH P cc j b = r)) i)) (nI i) y = if q i = false then g' (nI (cn (fun b => q b && decide (vH P cc j b = r)) i) + 0) (nI (i + 1)) (stf z 24 (nI i)) else bd (pX5_verdictHeld F (stf z 24 (nI i))) (fun (r19 : Int32) (u18 : St) => if r19 = nI r then g' (nI (cn (fun b => q b && decide (vH P cc j b = r)) i) + 1) (nI (i + 1)) u18 else g' (nI (cn (fun b => q b && decide (vH P cc j b = r)) i) + 0) (nI (i + 1)) u18) := by
          unfold bX6_leftAtTheWorst_18 pX6_prepare
          rw [if_neg (show ¬ (4 : Int32) ≤ nI i from by rw [L4]; exact nle hi (by omega)), z1']
          simp only [bd_s, vl_e, jn_e, nI_s, bit_0 q hi]
        by_cases hq : q i = true
        · have t2 : TP (pu P (40 + j) i) (stg P 0 (P 46)) cc j (stf z 24 (nI i)) := by
            obtain ⟨t1, t2, t3, t4, t5, t6⟩ := z2
            refine ⟨?_, ?_, ?_, t4, ?_, ?_⟩
            · rw [pu_n _ (by omega), pu_n _ (by omega)]; exact t1
            · rw [pu_n _ (by omega), pu_n _ (by omega)]; exact t2
            · rw [pu_n _ (by omega), pu_n _ (by omega)]; exact t3
            · rw [pu_s, stf_1, if_pos rfl]
            · rw [pu_n _ (by omega), stf_1, if_neg (by omega)]; exact t6
          have hk := hb_ok hPg hc4 hj3 hjj hi
          obtain ⟨t, t1, -, t3⟩ := X_heldP F (by omega) _ hk hcc hjj (fun m => stg_lt hPg 0 m) t2
          have hbd := hP_bd hk (stg P 0 (P 46)) hcc hjj
          refine Or.inr ⟨nI (cn (fun b => q b && decide (vH P cc j b = r)) (i + 1)), t, ?_, rfl, ez.tr t3⟩
          rw [pre, if_neg (by rw [hq]; decide), t1, bd_s, ifeq (by omega) (by omega), cn, hq, Bool.true_and]
          by_cases z : (hP (pu P (40 + j) i) (stg P 0 (P 46)) cc j).1 = r
          · rw [if_pos z, if_pos (show decide (vH P cc j i = r) = true from decide_eq_true z), nI_s]
          · rw [if_neg z, if_neg (show ¬ decide (vH P cc j i = r) = true from by rw [show decide (vH P cc j i = r) = false from decide_eq_false z]; decide), L0, nI_add]
        · have hq' := Bool.eq_false_iff.mpr hq
          refine Or.inr ⟨nI (cn (fun b => q b && decide (vH P cc j b = r)) (i + 1)), _, ?_, rfl, ez⟩
          rw [pre, if_pos hq', cn, hq', Bool.false_and, if_neg (by decide), L0, nI_add]
    obtain ⟨y, y1, y2⟩ := inner (jX6_leftAtTheWorst_77 F (nI (xmx q (vH P cc j) (r - 1))) (nI r) g)
    have b1 := kc_le q (vH P cc j) r
    have b2 := xmx_le q (vH P cc j) (r - 1)
    refine Or.inr ⟨nI (xmx q (vH P cc j) (r + 1 - 1)), y, ?_, by omega, rfl, y2⟩
    unfold bX6_leftAtTheWorst_6
    rw [if_neg (show ¬ (3 : Int32) < nI r from by rw [L3]; exact nlt (by omega) (by omega)), jn_e, y1]
    unfold jX6_leftAtTheWorst_77
    rw [vl_e, nI_s, iflt (by omega) (by omega), show r + 1 - 1 = (r - 1) + 1 by omega, xmx, show r - 1 + 1 = r by omega]
    by_cases z : xmx q (vH P cc j) (r - 1) < kc q (vH P cc j) r
    · rw [if_pos z, if_pos z]
    · rw [if_neg z, if_neg z]
theorem M_worst (F : Nat) (hF : 80 ≤ F) {c j cc : Nat} {P : Nat → Nat} (q : Nat → Bool) (v : St) (J : Int32 → St → Option (Int32 × St)) (hc4 : c ≤ 4) (hcc : cc < c) (ht : ∀ hb, hb < 4 → v.2 8 (4 * hb + cc) = nI (vH P cc j hb)) (hV : ∀ i, i < 4 → vH P cc j i ≤ 3) : lq2 (bX7_ask_54 F (bI q 4) (nI cc) J) F 0 0 v = J (nI (mmx q (vH P cc j) 4)) v := by
  have inner : ∀ (a : Nat) (J : Int32 → St → Option (Int32 × St)), a < 4 → lq2 (bX7_ask_66 F (bI q 4) (nI cc) (nI a) J) F 0 0 v = J (nI (mka q (vH P cc j) a)) v := fun a J ha => by
    by_cases hq : q a = true
    · have em : mka q (vH P cc j) a = cn (fun b => q b && decide (vH P cc j a = vH P cc j b)) 4 := by
        unfold mka
        rw [if_pos hq]
      rw [em]
      refine lq2_up (n := 4) (I := fun i x w => x = nI (cn (fun b => q b && decide (vH P cc j a = vH P cc j b)) i) ∧ w = v) (Q := fun o => o = J (nI (cn (fun b => q b && decide (vH P cc j a = vH P cc j b)) 4)) v) ?_ ?_ 4 0 F 0 v (by omega) (by omega) ⟨rfl, rfl⟩
      · rintro g x w ⟨rfl, rfl⟩
        unfold bX7_ask_66
        rw [if_pos (show (4 : Int32) ≤ nI 4 by decide)]
      · rintro g i x w hi ⟨rfl, rfl⟩
        refine Or.inr ⟨nI (cn (fun b => q b && decide (vH P cc j a = vH P cc j b)) (i + 1)), w, ?_, rfl, rfl⟩
        have b1 := hV a ha
        have b2 := hV i hi
        unfold bX7_ask_66
        rw [if_neg (show ¬ (4 : Int32) ≤ nI i from by rw [L4]; exact nle hi (by omega))]
        simp only [jn_e, vl_e, bit_1 q ha, bit_1 q hi, nI_s, tm4, nI_add]
        rw [if_pos hq, gd_i (by omega) (by omega), gd_i (by omega) (by omega), cl (by omega), cl (by omega), ht a ha, ht i hi, ifeq (by omega) (by omega), cn]
        by_cases hi' : q i = true
        · rw [if_pos hi', hi', Bool.true_and]
          by_cases z : vH P cc j a = vH P cc j i
          · rw [if_pos z, if_pos (decide_eq_true z)]
          · rw [if_neg z, if_neg (by rw [decide_eq_false z]; decide), L0, nI_add]
        · rw [if_neg hi', Bool.eq_false_iff.mpr hi', Bool.false_and, if_neg (by decide), L0, nI_add]
    · have em : mka q (vH P cc j) a = 0 := by
        unfold mka
        rw [if_neg hq]
      rw [em]
      obtain ⟨f, hf⟩ : ∃ f, F = f + 1 := ⟨F - 1, by omega⟩
      generalize hg : lq2 (bX7_ask_66 F (bI q 4) (nI cc) (nI a) J) F = G
      have hg' : G = lq2 (bX7_ask_66 F (bI q 4) (nI cc) (nI a) J) (f + 1) := by rw [← hg]; exact congrArg _ hf
      rw [hg', lq2_s]
      unfold bX7_ask_66
      rw [if_neg (show ¬ (4 : Int32) ≤ 0 by decide), if_neg (show ¬ (((bI q 4 >>> (nI a &&& 31)) &&& 1) = 1) from by rw [bit_1 q ha]; exact hq)]
      rfl
  refine lq2_up (n := 4) (I := fun i x w => x = nI (mmx q (vH P cc j) i) ∧ w = v) (Q := fun o => o = J (nI (mmx q (vH P cc j) 4)) v) ?_ ?_ 4 0 F 0 v (by omega) (by omega) ⟨rfl, rfl⟩
  · rintro g x w ⟨rfl, rfl⟩
    unfold bX7_ask_54
    rw [if_pos (show (4 : Int32) ≤ nI 4 by decide)]
  · rintro g i x w hi ⟨rfl, rfl⟩
    refine Or.inr ⟨nI (mmx q (vH P cc j) (i + 1)), w, ?_, rfl, rfl⟩
    have b1 := mka_le q (vH P cc j) i
    have b2 := mmx_le q (vH P cc j) i
    unfold bX7_ask_54
    rw [if_neg (show ¬ (4 : Int32) ≤ nI i from by rw [L4]; exact nle hi (by omega)), jn_e, inner i _ hi]
    unfold jX7_ask_135
    simp only [jn_e, nI_s]
    rw [ifle (by omega) (by omega), mmx]
    by_cases z : mka q (vH P cc j) i ≤ mmx q (vH P cc j) i
    · rw [if_pos z, if_pos z]
    · rw [if_neg z, if_neg z]
def akO (q : Nat → Bool) (W : Nat → Nat) : Nat → Nat × Int32
  | 0 => (cn q 4, -4)
  | i + 1 => if (akO q W i).1 ≤ W i then akO q W i else (W i, nI i)
theorem akO_le (q : Nat → Bool) {W : Nat → Nat} (hW : ∀ i, W i ≤ 4) : ∀ n, (akO q W n).1 ≤ 4
  | 0 => cn_le _ 4
  | n + 1 => by
    unfold akO
    split
    · exact akO_le q hW n
    · exact hW n
theorem st_ask (F : Nat) (hLF : 200 ≤ F) {u v : St} (h : RR u v) (x0 x1 : Int32) : ∃ (r : Int32) (u' v' : St), pX6_ask F x0 x1 u = some (r, u') ∧ pX7_ask F x0 x1 v = some (r, v') ∧ RR u' v' := by
  obtain ⟨c, jn, P, ⟨c1, c2, c3, hX, c5, c6, c7⟩, i0, i1, hs, ht, hw, htn, hsh, hc⟩ := id h
  obtain ⟨n, A, B, D, n1, n2, n3, n4⟩ := hs.fn c1 c2
  unfold pX6_ask pX7_ask
  rcases two_judge x0 c2 hX.2.1 c6 with ⟨b, b1, rfl, k, k'⟩ | ⟨k, k'⟩
  · rcases rng x1 (a0 := 0) (b0 := 1) (a1 := 0) (b1 := 1) 0 1 rfl rfl rfl rfl (by omega) (by omega) with ⟨d, d1, d2, rfl, t, t'⟩ | ⟨-, t, t'⟩
    · obtain ⟨u1, g1, g2⟩ := X_habits F (by omega) (A := A) (B := B) (D := D) u c1 c2 c3 hX b1 n1 n2 (fun i hi => by
        obtain ⟨a1, a2, a3, a4, a5, a6, a7, -⟩ := n4 i hi
        exact ⟨a1, a2, a3, a4, a5, a6, a7⟩)
      obtain ⟨v1, m1, m2, m3⟩ := M_habits F (by omega) (A := A) (B := B) (D := D) v c1 c2 c3 c7 (menv0 hc) c5 b1 n1 n3 (fun i hi => by
        obtain ⟨a1, a2, a3, a4, -, -, -, a5, a6, a7⟩ := n4 i hi
        exact ⟨a1, a2, a3, a4, a5, a6, a7⟩)
      generalize hbq P A B D n b = q at g1 m1
      obtain ⟨W, hW⟩ : ∃ W : Nat → Nat, W = fun cc => xmx q (vH P cc b) 3 := ⟨_, rfl⟩
      have hW4 : ∀ i, W i ≤ 4 := fun i => by rw [hW]; exact xmx_le _ _ _
      have hVb : ∀ cc, cc < c → ∀ i, i < 4 → 1 ≤ vH P cc b i ∧ vH P cc b i ≤ 3 := fun cc hcc i hi => by
        have := hP_bd (hb_ok c3 c1 c2 b1 hi) (stg P 0 (P 46)) hcc b1
        exact ⟨this.1, this.2.1⟩
      have e0 : v1.1 0 = nI c := m3.2.1.1.trans c5
      have pX : ∃ u', lq3 (bX6_ask_42 F (nI b) (bI q 4) (jX6_ask_85 F (nI d))) F (nI (cn q 4)) (-4) 0 u1 = jX6_ask_85 F (nI d) (nI (akO q W c).1) (akO q W c).2 u' ∧ eqT u u' := by
        refine lq3_up (n := c) (I := fun i x y w => x = nI (akO q W i).1 ∧ y = (akO q W i).2 ∧ eqT u w) (Q := fun o => ∃ u' : St, o = jX6_ask_85 F (nI d) (nI (akO q W c).1) (akO q W c).2 u' ∧ eqT u u') ?_ ?_ c 0 F _ _ u1 (by omega) (by omega) ⟨rfl, rfl, g2⟩
        · rintro g x y w ⟨rfl, rfl, hw'⟩
          refine ⟨w, ?_, hw'⟩
          have e : w.1 0 = nI c := (hw'.1 0 (by omega)).trans hX.1
          unfold bX6_ask_42
          rw [e, if_pos (yle (Nat.le_refl _) (by omega))]
        · rintro g i x y w hi ⟨rfl, rfl, hw'⟩
          have e : w.1 0 = nI c := (hw'.1 0 (by omega)).trans hX.1
          obtain ⟨z, z1, z2⟩ := X_worst F (by omega) (cc := i) q w c1 c2 c3 (hX.eq (by omega) hw'.x) hi b1
          have z1' : pX6_leftAtTheWorst F (nI i) (nI b) (bI q 4) w = some (nI (W i), z) := by
            rw [hW]; exact z1
          have b2 := akO_le q hW4 i
          have b3 := hW4 i
          refine Or.inr ⟨nI (akO q W (i + 1)).1, (akO q W (i + 1)).2, z, ?_, rfl, rfl, hw'.tr z2⟩
          unfold bX6_ask_42
          rw [e, if_neg (nle hi (by omega)), z1', bd_s]
          simp only [jn_e, nI_s]
          rw [ifle (by omega) (by omega), akO]
          by_cases z : (akO q W i).1 ≤ W i
          · rw [if_pos z, if_pos z]
          · rw [if_neg z, if_neg z]
      have pM : lq3 (bX7_ask_39 F (bI q 4) (jX7_ask_195 F (nI d))) F (nI (cn q 4)) (-4) 0 v1 = jX7_ask_195 F (nI d) (nI (akO q W c).1) (akO q W c).2 v1 := by
        refine lq3_up (n := c) (I := fun i x y w => x = nI (akO q W i).1 ∧ y = (akO q W i).2 ∧ w = v1) (Q := fun o => o = jX7_ask_195 F (nI d) (nI (akO q W c).1) (akO q W c).2 v1) ?_ ?_ c 0 F _ _ v1 (by omega) (by omega) ⟨rfl, rfl, rfl⟩
        · rintro g x y w ⟨rfl, rfl, rfl⟩
          unfold bX7_ask_39
          rw [e0, if_pos (yle (Nat.le_refl _) (by omega))]
        · rintro g i x y w hi ⟨rfl, rfl, rfl⟩
          have mw := M_worst F (by omega) (j := b) (cc := i) q w (jX7_ask_157 F (nI (akO q W i).1) (akO q W i).2 (nI i) g) c1 hi (fun hb hhb => m2 hb hhb i hi) (fun o ho => (hVb i hi o ho).2)
          rw [← xm_mm q (vH P i b) (hVb i hi)] at mw
          have mw' : lq2 (bX7_ask_54 F (bI q 4) (nI i) (jX7_ask_157 F (nI (akO q W i).1) (akO q W i).2 (nI i) g)) F 0 0 w = jX7_ask_157 F (nI (akO q W i).1) (akO q W i).2 (nI i) g (nI (W i)) w := by
            rw [mw, hW]
          have b2 := akO_le q hW4 i
          have b3 := hW4 i
          refine Or.inr ⟨nI (akO q W (i + 1)).1, (akO q W (i + 1)).2, w, ?_, rfl, rfl, rfl⟩
          unfold bX7_ask_39
          rw [e0, if_neg (nle hi (by omega)), jn_e, mw']
          unfold jX7_ask_157
          simp only [jn_e, nI_s]
          rw [akO]
          by_cases z : (akO q W i).1 ≤ W i
          · rw [if_pos (yle z (by omega)), if_pos (yle z (by omega)), if_pos z]
          · rw [if_neg (nle (by omega) (by omega)), if_neg (nle (by omega) (by omega)), if_neg z]
      obtain ⟨u', p1, p2⟩ := pX
      rw [k, k', bd_s, bd_s, i10, i10, t, t', bd_s, bd_s, i10, i10, g1, m1, bd_s, bd_s, X_pop F q (show 4 ≤ 4 by omega), M_pop F (show 80 ≤ F by omega) q (show 4 ≤ 4 by omega), bd_s, bd_s, jn_e, jn_e, p1, pM]
      unfold jX6_ask_85 jX7_ask_195
      have hR := h.eq p2.x m3
      by_cases z : (akO q W c).2 = -4
      · rw [if_pos z, if_pos z]; exact ⟨_, _, _, rfl, rfl, hR⟩
      · rw [if_neg z, if_neg z]
        by_cases z' : nI d = 0
        · rw [if_pos z', if_pos z']; exact ⟨_, _, _, rfl, rfl, hR⟩
        · rw [if_neg z', if_neg z']; exact ⟨_, _, _, rfl, rfl, hR⟩
    · simp only [k, k', t, t', bd_s, i10, i00]
      exact ⟨_, _, _, rfl, rfl, h⟩
  · simp only [k, k', bd_s, i00]
    exact ⟨_, _, _, rfl, rfl, h⟩
theorem step_ask {u v : St} (h : RR u v) (x0 x1 : Int32) : ∃ (r : Int32) (u' v' : St), pX6_ask LF x0 x1 u = some (r, u') ∧ pX7_ask LF x0 x1 v = some (r, v') ∧ RR u' v' := st_ask LF (by decide) h x0 x1
end
section
/-! PURE: drift (bits out of the kit's laws) -/
theorem b_and (x y : Int32) (i : Nat) : bt (x &&& y) i = (bt x i && bt y i) := by unfold bt; rw [Int32.toBitVec_and, BitVec.getLsbD_and]
theorem s_u : ∀ n, n < 32 → (((nI n).toUInt32 &&& Int32.toUInt32 31).toBitVec % 32).toNat = n := by decide +kernel
theorem b_ushr (n : Nat) (hn : n < 32) (x : Int32) (i : Nat) : bt ((x.toUInt32 >>> ((nI n).toUInt32 &&& Int32.toUInt32 31)).toInt32) i = bt x (n + i) := by
  show (x.toUInt32 >>> ((nI n).toUInt32 &&& Int32.toUInt32 31)).toBitVec.getLsbD i = x.toUInt32.toBitVec.getLsbD (n + i)
  rw [UInt32.toBitVec_shiftRight]
  show (x.toUInt32.toBitVec >>> (((nI n).toUInt32 &&& Int32.toUInt32 31).toBitVec % 32).toNat).getLsbD i = _
  rw [s_u n hn, BitVec.getLsbD_ushiftRight]
theorem b_32767 : ∀ i, i < 32 → bt 32767 i = decide (i < 15) := by decide +kernel
theorem got_eq (x : Int32) : (ushr x 16) &&& 32767 = (x >>> ((16 : Int32) &&& 31)) &&& 32767 := by
  apply b_ext
  intro i hi
  rw [b_and, b_and, b_32767 i hi]
  by_cases h : i < 15
  · have e1 : bt (ushr x 16) i = bt x (16 + i) := b_ushr 16 (by omega) x i
    have e2 : bt (x >>> ((16 : Int32) &&& 31)) i = if 16 + i < 32 then bt x (16 + i) else bt x 31 := b_sshr 16 (by omega) x hi
    rw [e1, e2, if_pos (by omega)]
  · rw [decide_eq_false h, Bool.and_false, Bool.and_false]
def got (x : Int32) : Nat := Int32.toNatClampNeg ((ushr x 16) &&& 32767)
theorem got_n (x : Int32) : (ushr x 16) &&& 32767 = nI (got x) ∧ got x < 32768 := by
  obtain ⟨j, j1, j2⟩ := pk_andE (ushr x 16) (m := 32767) 15 (by decide +kernel)
  unfold got
  rw [j2, cl (by omega)]
  exact ⟨rfl, j1⟩
theorem irm_n {a d : Nat} (ha : a < 2 ^ 31) (h0 : 0 < d) (hd : d < 2 ^ 31) : irm (nI a) (nI d) = nI (a % d) := pk_rem ha h0 hd
/-- a page with other lengths -/
def lp (P L : Nat → Nat) : Nat → Nat := fun k => if 8 ≤ k ∧ k < 16 then L (k - 8) else P k
theorem lp_l (P L : Nat → Nat) {f : Nat} (h : f < 8) : lp P L (8 + f) = L f := by
  unfold lp
  rw [if_pos ⟨by omega, by omega⟩, show 8 + f - 8 = f by omega]
theorem lp_o (P L : Nat → Nat) {k : Nat} (h : k < 8 ∨ 16 ≤ k) : lp P L k = P k := by
  unfold lp
  rw [if_neg (by omega)]
theorem lp_ok {c jn : Nat} {P L : Nat → Nat} (h : PgOK c jn P) (hc : c ≤ 4) (hL : ∀ f, f < 2 * c → L f ≤ 99) : PgOK c jn (lp P L) := by
  obtain ⟨p1, p2, p3, p4, p5, p6, p7⟩ := h
  refine ⟨by rw [lp_o P L (by omega)]; exact p1, by rw [lp_o P L (by omega)]; exact p2, fun f hf => ?_, fun f hf => ?_, fun f hf => ?_, fun f hf => ?_, fun f hf => ?_⟩
  · rw [lp_o P L (k := f) (by omega), lp_o P L (k := 16 + f) (by omega), lp_l P L (f := f) (by omega)]
    exact ⟨(p3 f hf).1, hL f hf, (p3 f hf).2.2⟩
  · rw [lp_o P L (by omega), lp_o P L (by omega), lp_o P L (by omega), lp_o P L (by omega)]; exact p4 f hf
  · rw [lp_o P L (by omega), lp_o P L (by omega)]; exact p5 f hf
  · rw [lp_o P L (by omega)] at hf
    rw [lp_o P L (by omega), lp_o P L (by omega)]; exact p6 f hf
  · rw [lp_o P L (by omega)] at hf
    rw [lp_o P L (by omega), lp_o P L (by omega)]; exact p7 f hf
theorem lp_S (P L : Nat → Nat) : stg (lp P L) 0 (lp P L 46) = stg P 0 (P 46) := by
  funext m
  rw [lp_o P L (by omega)]
  exact stg_c (fun k hk => lp_o P L (by omega)) 0 _ m
theorem lp_lw (P L : Nat → Nat) {a l0 l1 : Nat} (ha : a < 4) (k : Nat) : lw (lp P L) a l0 l1 k = lp P (pu (pu L (2 * a) l0) (2 * a + 1) l1) k := by
  by_cases h1 : k = 8 + 2 * a
  · rw [h1, lw_0, lp_l _ _ (by omega), pu_n _ (by omega), pu_s]
  · by_cases h2 : k = 8 + (2 * a + 1)
    · rw [h2, lw_1, lp_l _ _ (by omega), pu_s]
    · rw [lw_o _ h1 h2]
      by_cases h3 : 8 ≤ k ∧ k < 16
      · obtain ⟨f, rfl⟩ : ∃ f, k = 8 + f := ⟨k - 8, by omega⟩
        rw [lp_l _ _ (by omega), lp_l _ _ (by omega), pu_n _ (by omega), pu_n _ (by omega)]
      · rw [lp_o _ _ (by omega), lp_o _ _ (by omega)]
/-- one of the drift's hearings -/
def dA (c g : Nat) : Nat := g % c
def dB (jn g : Nat) : Nat := g / 512 % jn
def dL1 (c g : Nat) (L : Nat → Nat) : Nat → Nat := pu L (2 * dA c g + g / 8 % 2) (g / 16 % 20)
def dH (P : Nat → Nat) (c jn g : Nat) (L : Nat → Nat) : Nat × Nat × Nat × Nat := hP (lp P (dL1 c g L)) (stg P 0 (P 46)) (dA c g) (dB jn g)
def dL2 (P : Nat → Nat) (c jn g : Nat) (L : Nat → Nat) : Nat → Nat := pu (pu (dL1 c g L) (2 * dA c g) (dH P c jn g L).2.2.1) (2 * dA c g + 1) (dH P c jn g L).2.2.2
theorem dL1_le {c g : Nat} {L : Nat → Nat} (hL : ∀ f, f < 2 * c → L f ≤ 99) : ∀ f, f < 2 * c → dL1 c g L f ≤ 99 := fun f hf => by
  have := hL f hf
  unfold dL1 pu
  split <;> omega
theorem dH_bd {c jn g : Nat} {P L : Nat → Nat} (hPg : PgOK c jn P) (hc : c ≤ 4) (h0 : 0 < c) (hj : 0 < jn) (hL : ∀ f, f < 2 * c → L f ≤ 99) : 1 ≤ (dH P c jn g L).1 ∧ (dH P c jn g L).1 ≤ 3 ∧ (dH P c jn g L).2.1 ≤ 9 ∧ (dH P c jn g L).2.2.1 ≤ 99 ∧ (dH P c jn g L).2.2.2 ≤ 99 := hP_bd (lp_ok hPg hc (dL1_le hL)) (stg P 0 (P 46)) (Nat.mod_lt _ h0) (Nat.mod_lt _ hj)
theorem dL2_le {c jn g : Nat} {P L : Nat → Nat} (hPg : PgOK c jn P) (hc : c ≤ 4) (h0 : 0 < c) (hj : 0 < jn) (hL : ∀ f, f < 2 * c → L f ≤ 99) : ∀ f, f < 2 * c → dL2 P c jn g L f ≤ 99 := fun f hf => by
  have h1 := dL1_le (g := g) hL f hf
  have h2 := dH_bd (g := g) hPg hc h0 hj hL
  unfold dL2 pu
  split
  · omega
  · split <;> omega
def eqV (u u' : St) : Prop := (∀ k, (k < 24 ∨ 26 < k) → u'.1 k = u.1 k) ∧ ∀ k, k ≠ 53 → (k < 55 ∨ 58 < k) → u'.2 k = u.2 k
theorem eqV.x {u u' : St} (h : eqV u u') : eqX u u' := ⟨fun k q => h.1 k (by omega), fun k q => h.2 k (by omega) (by omega)⟩
theorem eqV.tr {u w x : St} (h : eqV u w) (h2 : eqV w x) : eqV u x := ⟨fun k q => (h2.1 k q).trans (h.1 k q), fun k q q' => (h2.2 k q q').trans (h.2 k q q')⟩
theorem eqT.v {u u' : St} (h : eqT u u') : eqV u u' := ⟨h.1, fun k q q' => h.2 k q'⟩
theorem eqV.st {u w : St} (h : eqV u w) (i x : Int32) : eqV u (sta w 53 i x) := ⟨h.1, fun k q q' => by rw [sta_m _ _ _ q]; exact h.2 k q q'⟩
theorem X_drift1 (F : Nat) (hF : 80 ≤ F) {c jn g : Nat} {P L : Nat → Nat} (u : St) (hc4 : c ≤ 4) (hj3 : jn ≤ 3) (hc0 : 0 < c) (hj0 : 0 < jn) (hPg : PgOK c jn P) (hX : CtX 0 c jn P u) (hg : g < 32768) (hL : ∀ f, f < 2 * c → L f ≤ 99) (h53 : ∀ f, f < 2 * c → u.2 53 f = nI (L f)) : ∃ u', pX6_driftVerdict F (nI g) u = some (nI (dH P c jn g L).1, u') ∧ (∀ f, f < 2 * c → u'.2 53 f = nI (dL2 P c jn g L f)) ∧ eqV u u' := by
  have ha : dA c g < c := Nat.mod_lt _ hc0
  have hb : dB jn g < jn := Nat.mod_lt _ hj0
  have y0 : u.1 0 = nI c := hX.1
  have y1 : u.1 1 = nI jn := hX.2.1
  obtain ⟨w, hw⟩ : ∃ w, w = sta u 53 (nI (2 * dA c g + g / 8 % 2)) (nI (g / 16 % 20)) := ⟨_, rfl⟩
  have ew : eqV u w := by
    rw [hw]
    exact eqV.st ⟨fun _ _ => rfl, fun _ _ _ => rfl⟩ _ _
  have w53 : ∀ f, f < 2 * c → w.2 53 f = nI (dL1 c g L f) := fun f hf => by
    rw [hw, sta_h _ _ (by omega)]
    exact puI (h53 f hf) _ Iff.rfl
  obtain ⟨y, k1, k2, k3⟩ := X_prepP F (by omega) w hc4 hj3 hPg (hX.eq (by omega) ew.x) ha hb (aw := 0) (by omega)
  have y53 : ∀ f, f < 2 * c → y.2 53 f = nI (dL1 c g L f) := fun f hf => by rw [k3.2 53 (by omega)]; exact w53 f hf
  obtain ⟨z, z1, z2, z3⟩ := X_change F (s := 0) (d := 1) (x := dL1 c g L (2 * dA c g)) y k2 (by omega) (by omega) (by omega)
  have z53 : ∀ f, f < 2 * c → z.2 53 f = nI (dL1 c g L f) := fun f hf => by rw [z3.2 53 (by omega)]; exact y53 f hf
  obtain ⟨t, t1, t2, t3⟩ := X_change F (s := 1) (d := 1) (x := dL1 c g L (2 * dA c g + 1)) z z2 (by omega) (by omega) (by omega)
  have hl := dL1_le (g := g) hL
  have hQ := lp_ok hPg hc4 hl
  have t2' : TP (lp P (dL1 c g L)) (stg P 0 (P 46)) (dA c g) (dB jn g) t := by
    obtain ⟨⟨a1, a2⟩, ⟨a3, a4⟩, ⟨a5, a6⟩, a7, a8, a9⟩ := t2
    refine ⟨⟨?_, ?_⟩, ⟨?_, ?_⟩, ⟨?_, ?_⟩, a7, ?_, ?_⟩
    · rw [a1, pu_n _ (by omega), pu_n _ (by omega), lp_o _ _ (by omega)]
    · rw [a2, pu_n _ (by omega), pu_n _ (by omega), lp_o _ _ (by omega)]
    · rw [a3, pu_n _ (by omega), show 8 * 1 + (2 * dA c g + 0) = 8 + 2 * dA c g by omega, pu_s, lp_l _ _ (by omega)]
    · rw [a4, show 8 * 1 + (2 * dA c g + 1) = 8 + (2 * dA c g + 1) by omega, pu_s, lp_l _ _ (by omega)]
    · rw [a5, pu_n _ (by omega), pu_n _ (by omega), lp_o _ _ (by omega)]
    · rw [a6, pu_n _ (by omega), pu_n _ (by omega), lp_o _ _ (by omega)]
    · rw [a8, pu_n _ (by omega), pu_n _ (by omega), lp_o _ _ (by omega)]
    · rw [a9, pu_n _ (by omega), pu_n _ (by omega), lp_o _ _ (by omega)]
  obtain ⟨r, r1, ⟨r2, r3, -⟩, r4⟩ := X_heldP F (by omega) t hQ ha hb (fun m => stg_lt hPg 0 m) t2'
  have r1' : pX5_verdictHeld F t = some (nI (dH P c jn g L).1, r) := r1
  have r2' : r.2 56 0 = nI (dH P c jn g L).2.2.1 := r2
  have r3' : r.2 56 1 = nI (dH P c jn g L).2.2.2 := r3
  have er := ((ew.tr k3.v).tr z3.v).tr (t3.v.tr r4.v)
  refine ⟨sta (sta r 53 (nI (2 * dA c g)) (nI (dH P c jn g L).2.2.1)) 53 (nI (2 * dA c g + 1)) (nI (dH P c jn g L).2.2.2), ?_, fun f hf => ?_, (er.st _ _).st _ _⟩
  · have i0 : irm (nI g) (nI c) = nI (dA c g) := irm_n (by omega) hc0 (by omega)
    have i1 : irm (nI g / 8) 2 = nI (g / 8 % 2) := by rw [L8, L2, pk_div (by omega) (by omega) (by omega)]; exact irm_n (by omega) (by omega) (by omega)
    have i2 : irm (nI g / 16) 20 = nI (g / 16 % 20) := by rw [L16, L20, pk_div (by omega) (by omega) (by omega)]; exact irm_n (by omega) (by omega) (by omega)
    have i3 : irm (nI g / 512) (nI jn) = nI (dB jn g) := by rw [show (512 : Int32) = nI 512 from rfl, pk_div (by omega) (by omega) (by omega)]; exact irm_n (by omega) hj0 (by omega)
    have n8 : nz 8 = true := by decide +kernel
    have n2 : nz 2 = true := by decide +kernel
    have n16 : nz 16 = true := by decide +kernel
    have n20 : nz 20 = true := by decide +kernel
    have n512 : nz 512 = true := by decide +kernel
    have w1 : w.1 1 = nI jn := (ew.1 1 (by omega)).trans y1
    have k1' : pX5_prepare F (nI (dA c g)) (nI (dB jn g)) 0 w = some ((), y) := k1
    have z1' : pX5_change F 0 1 (nI (dL1 c g L (2 * dA c g))) y = some ((), z) := z1
    have t1' : pX5_change F 1 1 (nI (dL1 c g L (2 * dA c g + 1))) z = some ((), t) := t1
    unfold pX6_driftVerdict pX6_prepare
    rw [y0, y1, if_neg (n0f (by omega) (by omega)), if_neg (n0f (by omega) (by omega)), nz_nI hc0 (by omega), gd_true, i0, vl_e, n8, n2, n16, n20, gd_true, gd_true, gd_true, gd_true, i1, i2, tm2, nI_add, gd_i (by omega) (by omega), vl_e, ← hw, n512, gd_true, w1, nz_nI hj0 (by omega), gd_true, i3, k1']
    simp only [bd_s]
    rw [gd_i (by omega) (by omega), cl (by omega), y53 _ (by omega), z1', bd_s, nI_s, gd_i (by omega) (by omega), cl (by omega), z53 _ (by omega), t1', bd_s, r1', bd_s, b02, gd_true, gd_i (by omega) (by omega), vl_e, tc0, r2', b12, gd_true, gd_i (by omega) (by omega), vl_e, tc1, sta_m _ _ _ (show 56 ≠ 53 by omega), r3']
  · have e53 : r.2 53 f = nI (dL1 c g L f) := by rw [r4.2 53 (by omega), t3.2 53 (by omega)]; exact z53 f hf
    rw [sta_h _ _ (by omega)]
    refine puI ?_ _ Iff.rfl
    rw [sta_h _ _ (by omega)]
    exact puI e53 _ Iff.rfl
theorem M_drift1 (F : Nat) (hF : 80 ≤ F) {c jn g : Nat} {P L : Nat → Nat} (v : St) (hc4 : c ≤ 4) (hj3 : jn ≤ 3) (hc0 : 0 < c) (hj0 : 0 < jn) (hPg : PgOK c jn P) (hE : MEnv 0 0 0 v) (hg : g < 32768) (hL : ∀ f, f < 2 * c → L f ≤ 99) (hM : PgM 4 (lp P L) v) : ∃ v', pX7_hearsOn F 272 (nI (dA c g)) (nI (dB jn g)) (sta v 0 (nI (280 + 2 * dA c g + g / 8 % 2)) (nI (g / 16 % 20))) = some (nI (dH P c jn g L).1, v') ∧ PgM 4 (lp P (dL2 P c jn g L)) v' ∧ eqR v v' := by
  have ha : dA c g < c := Nat.mod_lt _ hc0
  have hb : dB jn g < jn := Nat.mod_lt _ hj0
  have hl := dL1_le (g := g) hL
  have m0 : PgM 4 (lp P (dL1 c g L)) (sta v 0 (nI (280 + 2 * dA c g + g / 8 % 2)) (nI (g / 16 % 20))) := fun k hk => by
    rw [sta_h _ _ (by omega)]
    by_cases h3 : 8 ≤ k ∧ k < 16
    · obtain ⟨f, rfl⟩ : ∃ f, k = 8 + f := ⟨k - 8, by omega⟩
      rw [lp_l _ _ (by omega)]
      unfold dL1
      refine puI ?_ _ (by omega)
      rw [hM _ hk, lp_l _ _ (by omega)]
    · rw [if_neg (by omega), hM _ hk, lp_o _ _ (by omega), lp_o _ _ (by omega)]
  have e0 : MEnv 0 0 0 (sta v 0 (nI (280 + 2 * dA c g + g / 8 % 2)) (nI (g / 16 % 20))) := by
    obtain ⟨e1, e2, e3, e4, e5, e6, e7⟩ := hE
    exact ⟨e1, e2, e3, e4, e5, e6, by rw [sta_m _ _ _ (by omega)]; exact e7⟩
  obtain ⟨v', k1, k2, -, k4, k5, k6⟩ := M_hears F hF (p := 4) _ (by omega) hc4 hj3 (lp_ok hPg hc4 hl) m0 e0 ha hb
  rw [stm_0, lp_S] at k1 k2
  refine ⟨v', k1, fun k hk => ?_, fun k hk => k4 k hk, fun k hk => by rw [k5 k hk, sta_m _ _ _ hk], fun i hi => by rw [k6 i (by omega), sta_h _ _ (by omega), if_neg (by omega)]⟩
  rw [k2 k hk, lp_lw _ _ (by omega)]
  rfl
/-- seeds, lengths, wins -/
def dS (x : Int32) : Nat → Int32
  | 0 => x
  | i + 1 => dS x i * 1103515245 + 12345
def dLs (P : Nat → Nat) (c jn : Nat) (x : Int32) : Nat → Nat → Nat
  | 0 => fun f => P (8 + f)
  | i + 1 => dL2 P c jn (got (dS x (i + 1))) (dLs P c jn x i)
def dW (P : Nat → Nat) (c jn : Nat) (x : Int32) : Nat → Nat
  | 0 => 0
  | i + 1 => dW P c jn x i + if (dH P c jn (got (dS x (i + 1))) (dLs P c jn x i)).1 = 1 then 1 else 0
theorem dS_s (x : Int32) (i : Nat) : dS x (i + 1) = dS x i * 1103515245 + 12345 := by rw [dS]
theorem dLs_s (P : Nat → Nat) (c jn : Nat) (x : Int32) (i : Nat) : dLs P c jn x (i + 1) = dL2 P c jn (got (dS x (i + 1))) (dLs P c jn x i) := by rw [dLs]
theorem dW_s (P : Nat → Nat) (c jn : Nat) (x : Int32) (i : Nat) : dW P c jn x (i + 1) = dW P c jn x i + if (dH P c jn (got (dS x (i + 1))) (dLs P c jn x i)).1 = 1 then 1 else 0 := by rw [dW]
theorem dLs_le {c jn : Nat} {P : Nat → Nat} (hPg : PgOK c jn P) (hc : c ≤ 4) (h0 : 0 < c) (hj : 0 < jn) (x : Int32) : ∀ i f, f < 2 * c → dLs P c jn x i f ≤ 99
  | 0, f, hf => (hPg.2.2.1 f hf).2.1
  | i + 1, f, hf => by
    rw [dLs_s]
    exact dL2_le hPg hc h0 hj (dLs_le hPg hc h0 hj x i) f hf
theorem st_drift (F : Nat) (hLF : 200 ≤ F) {u v : St} (h : RR u v) (x0 x1 x2 : Int32) : ∃ (r : Int32) (u' v' : St), pX6_drift F x0 x1 x2 u = some (r, u') ∧ pX7_drift F x0 x1 x2 v = some (r, v') ∧ RR u' v' := by
  obtain ⟨c, jn, P, ⟨c1, c2, c3, hX, c5, c6, c7⟩, i0, i1, hs, ht, hw, htn, hsh, hc⟩ := id h
  have y0 : u.1 0 = nI c := hX.1
  have y1 : u.1 1 = nI jn := hX.2.1
  unfold pX6_drift pX7_drift
  rcases rng x1 (a0 := 1) (b0 := 60) (a1 := 1) (b1 := 60) 1 60 rfl rfl rfl rfl (by omega) (by omega) with ⟨n, n1, n2, rfl, e, e'⟩ | ⟨-, e, e'⟩
  · rcases rng x2 (a0 := 0) (b0 := 1) (a1 := 0) (b1 := 1) 0 1 rfl rfl rfl rfl (by omega) (by omega) with ⟨d, d1, d2, rfl, t, t'⟩ | ⟨-, t, t'⟩
    · rw [e, e', bd_s, bd_s, i10, i10, t, t', bd_s, bd_s, i10, i10, y0, y1, c5, c6]
      by_cases q0 : c = 0
      · rw [if_pos (show nI c = 0 by rw [q0]; rfl), if_pos (show nI c = 0 by rw [q0]; rfl)]
        exact ⟨_, _, _, rfl, rfl, h⟩
      · rw [if_neg (n0f q0 (by omega)), if_neg (n0f q0 (by omega))]
        by_cases q1 : jn = 0
        · rw [if_pos (show nI jn = 0 by rw [q1]; rfl), if_pos (show nI jn = 0 by rw [q1]; rfl)]
          exact ⟨_, _, _, rfl, rfl, h⟩
        · rw [if_neg (n0f q1 (by omega)), if_neg (n0f q1 (by omega))]
          have hc0 : 0 < c := by omega
          have hj0 : 0 < jn := by omega
          obtain ⟨w, g1, g2, g3, g4⟩ := X_row F (a := 1) (b := 53) (n := 8) u rfl rfl (by omega)
          obtain ⟨y, m1, m2, m3, m4, m5⟩ := M_copies F (by omega) (p := 0) (q := 4) (by omega) (by omega) (by omega) v
          have m1' : pX7_copies F 0 272 v = some ((), y) := m1
          have ew : eqV u w := ⟨fun k hk => by rw [g2], fun k q q' => g3 k q⟩
          have hy : eqR v y := ⟨fun k hk => by rw [m2], m3, fun i hi => m5 i (by omega)⟩
          have w53 : ∀ f, f < 2 * c → w.2 53 f = nI (dLs P c jn x0 0 f) := fun f hf => by
            rw [g4 f (by omega)]
            exact (hX.2.2.2.2.1 f hf).2.1
          have my : PgM 4 (lp P (dLs P c jn x0 0)) y := fun k hk => by
            rw [m4 k hk]
            by_cases h3 : 8 ≤ k ∧ k < 16
            · obtain ⟨f, rfl⟩ : ∃ f, k = 8 + f := ⟨k - 8, by omega⟩
              rw [lp_l _ _ (by omega)]
              exact c7 _ hk
            · rw [lp_o _ _ (by omega)]
              exact c7 _ hk
          have pX : ∃ u', lq3 (bX6_drift_69 F (nI n) (jX6_drift_120 F (nI d))) F 0 x0 0 w = jX6_drift_120 F (nI d) (nI (dW P c jn x0 n)) u' ∧ (∀ f, f < 2 * c → u'.2 53 f = nI (dLs P c jn x0 n f)) ∧ eqV u u' := by
            refine lq3_up (n := n) (I := fun i a b z => a = nI (dW P c jn x0 i) ∧ b = dS x0 i ∧ (∀ f, f < 2 * c → z.2 53 f = nI (dLs P c jn x0 i f)) ∧ eqV u z) (Q := fun o => ∃ u' : St, o = jX6_drift_120 F (nI d) (nI (dW P c jn x0 n)) u' ∧ (∀ f, f < 2 * c → u'.2 53 f = nI (dLs P c jn x0 n f)) ∧ eqV u u') ?_ ?_ n 0 F 0 x0 w (by omega) (by omega) ⟨rfl, rfl, w53, ew⟩
            · rintro g a b z ⟨rfl, rfl, z53, hz⟩
              refine ⟨z, ?_, z53, hz⟩
              unfold bX6_drift_69
              rw [if_pos (yle (Nat.le_refl _) (by omega))]
            · rintro g i a b z hi ⟨rfl, rfl, z53, hz⟩
              obtain ⟨y', hy'⟩ : ∃ y', y' = dS x0 (i + 1) := ⟨_, rfl⟩
              have hs' : dS x0 i * 1103515245 + 12345 = y' := by rw [hy', dS_s]
              obtain ⟨o1, o2⟩ := got_n y'
              have hl := dLs_le c3 c1 hc0 hj0 x0 i
              obtain ⟨r, r1, r2, r3⟩ := X_drift1 F (by omega) z c1 c2 hc0 hj0 c3 (hX.eq (by omega) hz.x) o2 hl z53
              have hbd := dH_bd (g := got y') c3 c1 hc0 hj0 hl
              refine Or.inr ⟨nI (dW P c jn x0 (i + 1)), y', r, ?_, rfl, hy', fun f hf => by rw [dLs_s, ← hy']; exact r2 f hf, hz.tr r3⟩
              unfold bX6_drift_69
              rw [if_neg (nle hi (by omega)), vl_e, hs', o1, r1, bd_s]
              simp only [jn_e, vl_e, nI_s]
              rw [L1, ifeq (by omega) (by omega), dW_s, ← hy']
              by_cases z1 : (dH P c jn (got y') (dLs P c jn x0 i)).1 = 1
              · rw [if_pos z1, if_pos z1]
              · rw [if_neg z1, if_neg z1, L0, nI_add]
          have pM : ∃ v', lq3 (bX7_drift_58 F (nI n) (jX7_drift_165 F (nI d))) F x0 0 0 y = jX7_drift_165 F (nI d) (nI (dW P c jn x0 n)) v' ∧ PgM 4 (lp P (dLs P c jn x0 n)) v' ∧ eqR v v' := by
            refine lq3_up (n := n) (I := fun i a b z => a = dS x0 i ∧ b = nI (dW P c jn x0 i) ∧ PgM 4 (lp P (dLs P c jn x0 i)) z ∧ eqR v z) (Q := fun o => ∃ v' : St, o = jX7_drift_165 F (nI d) (nI (dW P c jn x0 n)) v' ∧ PgM 4 (lp P (dLs P c jn x0 n)) v' ∧ eqR v v') ?_ ?_ n 0 F x0 0 y (by omega) (by omega) ⟨rfl, rfl, my, hy⟩
            · rintro g a b z ⟨rfl, rfl, hM, hz⟩
              refine ⟨z, ?_, hM, hz⟩
              unfold bX7_drift_58
              rw [if_pos (yle (Nat.le_refl _) (by omega))]
            · rintro g i a b z hi ⟨rfl, rfl, hM, hz⟩
              obtain ⟨y', hy'⟩ : ∃ y', y' = dS x0 (i + 1) := ⟨_, rfl⟩
              have hs' : dS x0 i * 1103515245 + 12345 = y' := by rw [hy', dS_s]
              obtain ⟨o1, o2⟩ := got_n y'
              rw [got_eq] at o1
              have hl := dLs_le c3 c1 hc0 hj0 x0 i
              obtain ⟨gg, hgg⟩ : ∃ gg, gg = got y' := ⟨_, rfl⟩
              rw [← hgg] at o1 o2
              obtain ⟨r, r1, r2, r3⟩ := M_drift1 F (by omega) z c1 c2 hc0 hj0 c3 (hz.env (menv0 hc)) o2 hl hM
              have hbd := dH_bd (g := gg) c3 c1 hc0 hj0 hl
              have ha : dA c gg < c := Nat.mod_lt _ hc0
              have e0 : z.1 0 = nI c := (hz.1 0 (by omega)).trans c5
              have e1 : ∀ i' x', (sta z 0 i' x').1 1 = nI jn := fun i' x' => (hz.1 1 (by omega)).trans c6
              refine Or.inr ⟨y', nI (dW P c jn x0 (i + 1)), r, ?_, hy', rfl, by rw [dLs_s, ← hy', ← hgg]; exact r2, hz.tr r3⟩
              have j0 : irm (nI gg) (nI c) = nI (dA c gg) := irm_n (by omega) hc0 (by omega)
              have j1 : irm (nI gg / 8) 2 = nI (gg / 8 % 2) := by rw [L8, L2, pk_div (by omega) (by omega) (by omega)]; exact irm_n (by omega) (by omega) (by omega)
              have j2 : irm (nI gg / 16) 20 = nI (gg / 16 % 20) := by rw [L16, L20, pk_div (by omega) (by omega) (by omega)]; exact irm_n (by omega) (by omega) (by omega)
              have j3 : irm (nI gg / 512) (nI jn) = nI (dB jn gg) := by rw [show (512 : Int32) = nI 512 from rfl, pk_div (by omega) (by omega) (by omega)]; exact irm_n (by omega) hj0 (by omega)
              have n8 : nz 8 = true := by decide +kernel
              have n2 : nz 2 = true := by decide +kernel
              have n16 : nz 16 = true := by decide +kernel
              have n20 : nz 20 = true := by decide +kernel
              have n512 : nz 512 = true := by decide +kernel
              unfold bX7_drift_58
              rw [if_neg (nle hi (by omega)), vl_e, hs', o1, vl_e, e0, nz_nI hc0 (by omega), gd_true, j0, vl_e, n8, n2, n16, n20, gd_true, gd_true, gd_true, gd_true, j1, j2, tm2, show (280 : Int32) = nI 280 from rfl, nI_add, nI_add, gd_i (by omega) (by omega), vl_e, n512, gd_true, e1, nz_nI hj0 (by omega), gd_true, j3, r1, bd_s]
              simp only [jn_e, vl_e, nI_s]
              rw [L1, ifeq (by omega) (by omega), dW_s, ← hy', ← hgg]
              by_cases z1 : (dH P c jn gg (dLs P c jn x0 i)).1 = 1
              · rw [if_pos z1, if_pos z1]
              · rw [if_neg z1, if_neg z1, L0, nI_add]
          obtain ⟨u', p1, p2, p3⟩ := pX
          obtain ⟨v', k1, k2, k3⟩ := pM
          have hR := h.eq p3.x k3.m
          rw [g1, m1', bd_s, bd_s, jn_e, jn_e, p1, k1]
          unfold jX6_drift_120 jX7_drift_165
          by_cases z : nI d = 0
          · rw [if_pos z, if_pos z]; exact ⟨_, _, _, rfl, rfl, hR⟩
          · have s1 := X_sum F (by omega) u' (arr := 53) (fun i => dLs P c jn x0 n i) (show 2 * c ≤ 8 by omega) c1 (show 8 < 1000 by omega) ((p3.1 0 (by omega)).trans y0) p2
            have s2 : pX7_lengthsOn F 272 v' = some (nI (sm (fun i => lp P (dLs P c jn x0 n) (8 + i)) (2 * c)), v') := M_lens F (by omega) v' (p := 4) (by omega) c1 ((k3.1 0 (by omega)).trans c5) k2
            rw [if_neg z, if_neg z, s1, s2, bd_s, bd_s, sm_c (2 * c) (fun i hi => lp_l P (dLs P c jn x0 n) (show i < 8 by omega))]
            exact ⟨_, _, _, rfl, rfl, hR⟩
    · rw [e, e', bd_s, bd_s, i10, i10, t, t', bd_s, bd_s, i00, i00]
      exact ⟨_, _, _, rfl, rfl, h⟩
  · rw [e, e', bd_s, bd_s, i00, i00]
    exact ⟨_, _, _, rfl, rfl, h⟩
theorem step_drift {u v : St} (h : RR u v) (x0 x1 x2 : Int32) : ∃ (r : Int32) (u' v' : St), pX6_drift LF x0 x1 x2 u = some (r, u') ∧ pX7_drift LF x0 x1 x2 v = some (r, v') ∧ RR u' v' := st_drift LF (by decide) h x0 x1 x2
end
