/-! PURE: rest -/
theorem al_i {f : Nat → Bool} : ∀ {n : Nat}, (∀ i, i < n → f i = true) → al f n = true
  | 0, _ => rfl
  | n + 1, h => by
    unfold al
    rw [h n (by omega), al_i (fun i hi => h i (by omega))]
    rfl
def w0 (v : Nat) : Nat := if v = 3 then 1 else if v = 1 then 2 else 0
def w1 (v : Nat) : Nat := if v = 3 then 1 else if v = 2 then 2 else 0
theorem w01 {v : Nat} (h : 1 ≤ v ∧ v ≤ 3) : w0 v + w1 v = 2 := by
  have q : v = 1 ∨ v = 2 ∨ v = 3 := by omega
  rcases q with rfl | rfl | rfl <;> decide
theorem w0_lt (v : Nat) : w0 v < 1000 := by
  unfold w0
  split <;> (try split) <;> omega
theorem w1_lt (v : Nat) : w1 v < 1000 := by
  unfold w1
  split <;> (try split) <;> omega
theorem X_worth0 (F : Nat) {v : Nat} (u : St) (h : v < 1000) : pX6_worth F (nI v) 0 u = some (nI (w0 v), u) := by
  unfold pX6_worth w0
  rw [show (0 : Int32) + 1 = nI 1 from by decide +kernel, L3, ifeq (by omega) (by omega), ifeq (by omega) (by omega)]
  by_cases q : v = 3
  · rw [if_pos q, if_pos q]; rfl
  · rw [if_neg q, if_neg q]
    by_cases z : v = 1
    · rw [if_pos z, if_pos z]; rfl
    · rw [if_neg z, if_neg z]; rfl
theorem X_worth1 (F : Nat) {v : Nat} (u : St) (h : v < 1000) : pX6_worth F (nI v) 1 u = some (nI (w1 v), u) := by
  unfold pX6_worth w1
  rw [show (1 : Int32) + 1 = nI 2 from by decide +kernel, L3, ifeq (by omega) (by omega), ifeq (by omega) (by omega)]
  by_cases q : v = 3
  · rw [if_pos q, if_pos q]; rfl
  · rw [if_neg q, if_neg q]
    by_cases z : v = 2
    · rw [if_pos z, if_pos z]; rfl
    · rw [if_neg z, if_neg z]; rfl
/-- neither would rather have another hand -/
def rc (P : Nat → Nat) (a b x y o : Nat) : Bool := decide (w0 (gG P a b o y) ≤ w0 (gG P a b x y)) && decide (w0 (gG P a b x y) ≤ w0 (gG P a b x o))
def rs (P : Nat → Nat) (a b k : Nat) : Bool := al (rc P a b (k / 10) (k % 10)) 10
theorem X_rests (F : Nat) (hF : 80 ≤ F) {c jn a b x y : Nat} {P : Nat → Nat} (w : St) (hc4 : c ≤ 4) (hj3 : jn ≤ 3) (hPg : PgOK c jn P) (ha : a < c) (hb : b < jn) (ht : ∀ k, k < 100 → w.2 52 k = nI (gG P a b (k / 10) (k % 10))) (hx : x < 10) (hy : y < 10) : pX6_isAtRest F (nI x) (nI y) w = some (if al (rc P a b x y) 10 = true then 1 else 0, w) := by
  have hg : ∀ i j, i < 10 → j < 10 → w.2 52 (10 * i + j) = nI (gG P a b i j) := fun i j hi hj => by
    rw [ht _ (by omega), show (10 * i + j) / 10 = i by omega, show (10 * i + j) % 10 = j by omega]
  have hbd : ∀ i j, i < 10 → j < 10 → 1 ≤ gG P a b i j ∧ gG P a b i j ≤ 3 := fun i j hi hj => gG_bd hPg hc4 hj3 ha hb (by omega) (by omega)
  unfold pX6_isAtRest
  rw [tm10, nI_add, gd_i (by omega) (by omega), vl_e, cl (by omega), hg x y hx hy]
  refine lq1_up (n := 10) (I := fun i z => z = w ∧ ∀ o, o < i → rc P a b x y o = true) (Q := fun o => o = some (if al (rc P a b x y) 10 = true then 1 else 0, w)) ?_ ?_ 10 0 F w (by omega) (by omega) ⟨rfl, fun o ho => by omega⟩
  · rintro g z ⟨rfl, h1⟩
    unfold bX6_isAtRest_15
    rw [if_pos (show (10 : Int32) ≤ nI 10 by decide), if_pos (al_i h1)]
  · rintro g i z hi ⟨rfl, h1⟩
    have b0 := hbd x y hx hy
    have b1 := hbd i y hi hy
    have b2 := hbd x i hx hi
    have s0 := w01 b0
    have s2 := w01 b2
    have hrun : bX6_isAtRest_15 F (nI x) (nI y) (nI (gG P a b x y)) g (nI i) z = if rc P a b x y i = true then g (nI (i + 1)) z else some (0, z) := by
      unfold bX6_isAtRest_15
      rw [if_neg (show ¬ (10 : Int32) ≤ nI i from by rw [L10]; exact nle hi (by omega)), tm10, tm10, nI_add, nI_add, nI_s, gd_i (by omega) (by omega), cl (by omega), hg i y hi hy]
      simp only [gd_i (show 10 * x + i < 100 by omega) (show 100 < 2147483648 by omega), cl (show 10 * x + i < 2147483648 by omega), hg x i hx hi, X_worth0 F z (show gG P a b i y < 1000 by omega), X_worth0 F z (show gG P a b x y < 1000 by omega), X_worth1 F z (show gG P a b x i < 1000 by omega), X_worth1 F z (show gG P a b x y < 1000 by omega), bd_s]
      rw [iflt (by have := w0_lt (gG P a b x y); omega) (by have := w0_lt (gG P a b i y); omega), ifle (by have := w1_lt (gG P a b x i); omega) (by have := w1_lt (gG P a b x y); omega)]
      unfold rc
      by_cases q : w0 (gG P a b x y) < w0 (gG P a b i y)
      · rw [if_pos q, decide_eq_false (show ¬ w0 (gG P a b i y) ≤ w0 (gG P a b x y) by omega), Bool.false_and, if_neg (by decide)]
      · rw [if_neg q, decide_eq_true (show w0 (gG P a b i y) ≤ w0 (gG P a b x y) by omega), Bool.true_and]
        by_cases t : w1 (gG P a b x i) ≤ w1 (gG P a b x y)
        · rw [if_pos t, if_pos (decide_eq_true (by omega))]
        · rw [if_neg t, decide_eq_false (by omega), if_neg (by decide)]
    by_cases q : rc P a b x y i = true
    · refine Or.inr ⟨z, by rw [hrun, if_pos q], rfl, fun o ho => ?_⟩
      by_cases t : o = i
      · rw [t]; exact q
      · exact h1 o (by omega)
    · refine Or.inl ?_
      rw [hrun, if_neg q, al_f hi (Bool.eq_false_iff.mpr q), if_neg (by decide)]
theorem M_rests (F : Nat) (hF : 80 ≤ F) {a b x y : Nat} {P : Nat → Nat} (w : St) (ht : ∀ k, k < 100 → w.2 6 k = nI (w0 (gG P a b (k / 10) (k % 10)))) (hx : x < 10) (hy : y < 10) : pX7_isRest F (nI x) (nI y) w = some (if al (rc P a b x y) 10 = true then 1 else 0, w) := by
  have hg : ∀ i j, i < 10 → j < 10 → w.2 6 (10 * i + j) = nI (w0 (gG P a b i j)) := fun i j hi hj => by
    rw [ht _ (by omega), show (10 * i + j) / 10 = i by omega, show (10 * i + j) % 10 = j by omega]
  unfold pX7_isRest
  refine lq2_up (n := 10) (I := fun i r z => z = w ∧ r = if al (rc P a b x y) i = true then 1 else 0) (Q := fun o => o = some (if al (rc P a b x y) 10 = true then 1 else 0, w)) ?_ ?_ 10 0 F 1 w (by omega) (by omega) ⟨rfl, rfl⟩
  · rintro g r z ⟨rfl, rfl⟩
    unfold bX7_isRest_5
    rw [if_pos (show (9 : Int32) < nI 10 by decide)]
    cases al (rc P a b x y) 10
    · rfl
    · rfl
  · rintro g i r z hi ⟨rfl, rfl⟩
    refine Or.inr ⟨if al (rc P a b x y) (i + 1) = true then 1 else 0, z, ?_, rfl, rfl⟩
    unfold bX7_isRest_5
    rw [if_neg (show ¬ (9 : Int32) < nI i from by rw [L9]; exact nlt (by omega) (by omega)), nI_s]
    rcases hq : al (rc P a b x y) i with _ | _
    · have e : al (rc P a b x y) (i + 1) = false := by
        unfold al
        rw [hq, Bool.false_and]
      rw [e]
      simp only [jn_e, Bool.false_eq_true, if_true, if_false]
    · have e : al (rc P a b x y) (i + 1) = rc P a b x y i := by
        rw [al, hq, Bool.true_and]
      rw [e, if_pos rfl]
      simp only [jn_e, i10, tm10, nI_add]
      have a0 := w0_lt (gG P a b x y)
      have a1 := w0_lt (gG P a b i y)
      have a2 := w0_lt (gG P a b x i)
      rw [gd_i (n := 10 * i + y) (by omega) (by omega), gd_i (n := 10 * x + y) (by omega) (by omega), gd_i (n := 10 * x + i) (by omega) (by omega), gd_i (n := 10 * x + y) (by omega) (by omega), cl (n := 10 * i + y) (by omega), cl (n := 10 * x + y) (by omega), cl (n := 10 * x + i) (by omega), hg i y hi hy, hg x i hx hi, hg x y hx hy, iflt (by omega) (by omega), iflt (by omega) (by omega)]
      unfold rc
      by_cases q : w0 (gG P a b x y) < w0 (gG P a b i y)
      · rw [if_pos q, decide_eq_false (show ¬ w0 (gG P a b i y) ≤ w0 (gG P a b x y) by omega), Bool.false_and, if_neg (by decide)]
      · rw [if_neg q, decide_eq_true (show w0 (gG P a b i y) ≤ w0 (gG P a b x y) by omega), Bool.true_and]
        by_cases t : w0 (gG P a b x i) < w0 (gG P a b x y)
        · rw [if_pos t, decide_eq_false (by omega), if_neg (by decide)]
        · rw [if_neg t, if_pos (decide_eq_true (by omega))]
theorem FF.s {q : Nat → Bool} {i : Nat} {y : Int32} (h : FF q i y) (hi : i < 2147483648) : FF q (i + 1) (if q i = true then (if y = -4 then nI i else y) else y) := by
  rcases h with ⟨m, m1, m2, m3, rfl⟩ | ⟨h1, rfl⟩
  · rw [if_neg (m4_lt (by omega)).2.1]
    have e : (if q i = true then nI m else nI m) = nI m := by split <;> rfl
    rw [e]
    exact Or.inl ⟨m, by omega, m2, m3, rfl⟩
  · rw [if_pos rfl]
    by_cases z : q i = true
    · rw [if_pos z]
      exact Or.inl ⟨i, by omega, z, h1, rfl⟩
    · rw [if_neg z]
      refine Or.inr ⟨fun m hm => ?_, rfl⟩
      by_cases t : m = i
      · rw [t]; exact Bool.eq_false_iff.mpr z
      · exact h1 m (by omega)
theorem cn_0 {q : Nat → Bool} : ∀ n, (cn q n = 0 ↔ ∀ m, m < n → q m = false)
  | 0 => ⟨fun _ m hm => by omega, fun _ => rfl⟩
  | n + 1 => by
    have ih := cn_0 (q := q) n
    unfold cn
    constructor
    · intro h m hm
      have h1 : cn q n = 0 := by omega
      by_cases t : m = n
      · rw [t]
        rcases hq : q n with _ | _
        · rfl
        · rw [hq, if_pos rfl] at h; omega
      · exact ih.mp h1 m (by omega)
    · intro h
      rw [ih.mpr (fun m hm => h m (by omega)), h n (by omega), if_neg (by decide)]
theorem FF.c {q : Nat → Bool} {i : Nat} {y : Int32} (h : FF q i y) (hi : i < 2147483648) : (y = -4) = (cn q i = 0) := by
  rcases h with ⟨m, m1, m2, m3, rfl⟩ | ⟨h1, rfl⟩
  · have e1 := (m4_lt (n := m) (by omega)).2.1
    have e2 : ¬ cn q i = 0 := fun z => by
      have := (cn_0 i).mp z m m1
      rw [m2] at this
      exact absurd this (by decide)
    rw [eq_false e1, eq_false e2]
  · rw [eq_true (show (-4 : Int32) = -4 from rfl), eq_true ((cn_0 i).mpr h1)]
theorem st_rest (F : Nat) (hLF : 200 ≤ F) {u v : St} (h : RR u v) (x0 x1 x2 : Int32) : ∃ (r : Int32) (u' v' : St), pX6_rest F x0 x1 x2 u = some (r, u') ∧ pX7_rest F x0 x1 x2 v = some (r, v') ∧ RR u' v' := by
  obtain ⟨c, jn, P, ⟨c1, c2, c3, hX, c5, c6, c7⟩, i0, i1, hs, ht, hw, htn, hsh, hc⟩ := id h
  unfold pX6_rest pX7_rest pX7_isHeard
  rcases two_case x0 c1 hX.1 c5 with ⟨a, a1, rfl, e, e'⟩ | ⟨e, e'⟩
  · rcases two_judge x1 c2 hX.2.1 c6 with ⟨b, b1, rfl, k, k'⟩ | ⟨k, k'⟩
    · rcases rng x2 (a0 := 0) (b0 := 1) (a1 := 0) (b1 := 1) 0 1 rfl rfl rfl rfl (by omega) (by omega) with ⟨s, s1, s2, rfl, q, q'⟩ | ⟨-, q, q'⟩
      · simp only [e, e', k, k', q, q', bd_s, i10, jn_e]
        obtain ⟨u1, g1, g2, g3⟩ := X_fill F hLF u c1 c2 c3 hX a1 b1
        have pX : ∃ x, lq3 (bX6_rest_51 F (jX6_rest_100 F (nI s))) F 0 (-4) 0 u1 = jX6_rest_100 F (nI s) (nI (cn (rs P a b) 100)) x u1 ∧ FF (rs P a b) 100 x := by
          refine lq3_up (n := 100) (I := fun i x y w => x = nI (cn (rs P a b) i) ∧ FF (rs P a b) i y ∧ w = u1) (Q := fun o => ∃ x : Int32, o = jX6_rest_100 F (nI s) (nI (cn (rs P a b) 100)) x u1 ∧ FF (rs P a b) 100 x) ?_ ?_ 100 0 F 0 (-4) u1 (by omega) (by omega) ⟨rfl, Or.inr ⟨fun m hm => by omega, rfl⟩, rfl⟩
          · rintro g x y w ⟨rfl, h2, rfl⟩
            refine ⟨y, ?_, h2⟩
            unfold bX6_rest_51
            rw [if_pos (show (100 : Int32) ≤ nI 100 by decide)]
          · rintro g i x y w hi ⟨rfl, h2, rfl⟩
            obtain ⟨d1, d2⟩ := dv10 i hi
            have hr := X_rests F (by omega) (x := i / 10) (y := i % 10) w c1 c2 c3 a1 b1 g2 (by omega) (by omega)
            refine Or.inr ⟨nI (cn (rs P a b) (i + 1)), _, w, ?_, rfl, h2.s (by omega), rfl⟩
            unfold bX6_rest_51
            rw [if_neg (show ¬ (100 : Int32) ≤ nI i from by rw [L100]; exact nle hi (by omega)), nz10, gd_true, gd_true, d1, d2, hr, bd_s, nI_s, nI_s]
            simp only [jn_e]
            rw [cn]
            show (if (if rs P a b i = true then (1 : Int32) else 0) = 0 then _ else _) = _
            by_cases z : rs P a b i = true
            · rw [if_pos z, if_neg (show ¬ (1 : Int32) = 0 by decide), if_pos z, if_pos z]
              split <;> rfl
            · rw [if_neg z, if_pos rfl, if_neg z, if_neg z]
              try rfl
        have pM : ∃ v1, lq1 (bX7_rest_24 F (nI a) (nI b) (jX7_rest_83 F (nI s))) F 0 v = jX7_rest_83 F (nI s) v1 ∧ (∀ k, k < 100 → v1.2 6 k = nI (w0 (gG P a b (k / 10) (k % 10)))) ∧ eqM v v1 := by
          refine lq1_up (n := 100) (I := fun i y => (∀ k, k < i → y.2 6 k = nI (w0 (gG P a b (k / 10) (k % 10)))) ∧ (∀ k, k ≠ 18 → y.1 k = v.1 k) ∧ (∀ k, k ≠ 0 → k ≠ 6 → y.2 k = v.2 k) ∧ ∀ i, (i < 272 ∨ 408 ≤ i) → y.2 0 i = v.2 0 i) (Q := fun o => ∃ v1 : St, o = jX7_rest_83 F (nI s) v1 ∧ (∀ k, k < 100 → v1.2 6 k = nI (w0 (gG P a b (k / 10) (k % 10)))) ∧ eqM v v1) ?_ ?_ 100 0 F v (by omega) (by omega) ⟨fun k hk => by omega, fun _ _ => rfl, fun _ _ _ => rfl, fun _ _ => rfl⟩
          · rintro g y ⟨h1, h2, h3, h4⟩
            refine ⟨y, ?_, h1, fun i hi => h4 i (by omega), ⟨h2 _ (by omega), h2 _ (by omega), h2 _ (by omega), h2 _ (by omega), h2 _ (by omega), h2 _ (by omega), h2 _ (by omega), h2 _ (by omega)⟩, fun k hk => h3 k (by omega) (by omega)⟩
            unfold bX7_rest_24
            rw [if_pos (show (100 : Int32) ≤ nI 100 by decide)]
          · rintro g i y hi ⟨h1, h2, h3, h4⟩
            obtain ⟨d1, d2⟩ := dv10 i hi
            have yM : PgM 0 P y := fun k hk => (h4 _ (by omega)).trans (c7 k hk)
            have yE : MEnv 0 0 0 y := by
              obtain ⟨e1, e2, e3, e4, e5, e6, e7⟩ := menv0 hc
              exact ⟨e1, (h2 15 (by omega)).trans e2, Or.inl rfl, (h2 17 (by omega)).trans e4, e5, e6, (h3 1 (by omega) (by omega)).trans e7⟩
            obtain ⟨t, t1, t2⟩ := M_guards F (by omega) (x := i / 10) (y := i % 10) y c1 c2 c3 yM yE a1 b1 (by omega) (by omega)
            have hbd := gG_bd c3 c1 c2 a1 b1 (x := i / 10) (y := i % 10) (by omega) (by omega)
            refine Or.inr ⟨sta t 6 (nI i) (nI (w0 (gG P a b (i / 10) (i % 10)))), ?_, fun k hk => ?_, fun k hk => (t2.1 k hk).trans (h2 k hk), fun k q1 q2 => by rw [sta_m _ _ _ q2, t2.2.1 k q1, h3 k q1 q2], fun k hk => by rw [sta_m _ _ _ (by omega), t2.2.2 k hk, h4 k hk]⟩
            · unfold bX7_rest_24
              rw [if_neg (show ¬ (100 : Int32) ≤ nI i from by rw [L100]; exact nle hi (by omega)), nz10, gd_true, gd_true, d1, d2, t1, bd_s]
              simp only [jn_e, vl_e, nI_s, gd_i hi (show 100 < 2147483648 by omega)]
              generalize gG P a b (i / 10) (i % 10) = G at hbd ⊢
              have q : G = 1 ∨ G = 2 ∨ G = 3 := by omega
              rcases q with rfl | rfl | rfl
              · rw [if_pos (show nI 1 = 1 from rfl)]; rfl
              · rw [if_neg (show ¬ nI 2 = 1 by decide), if_neg (show ¬ nI 2 = 3 by decide)]; rfl
              · rw [if_neg (show ¬ nI 3 = 1 by decide), if_pos (show nI 3 = 3 from rfl)]; rfl
            · rw [sta_h _ _ (by omega)]
              by_cases q : k = i
              · rw [if_pos q, q]
              · rw [if_neg q, t2.2.1 6 (by omega)]; exact h1 k (by omega)
        obtain ⟨v1, m1, m2, m3⟩ := pM
        have pN : ∃ x, lq3 (bX7_rest_93 F (jX7_rest_156 F (nI s))) F 0 (-4) 0 v1 = jX7_rest_156 F (nI s) (nI (cn (rs P a b) 100)) x v1 ∧ FF (rs P a b) 100 x := by
          refine lq3_up (n := 100) (I := fun i x y w => x = nI (cn (rs P a b) i) ∧ FF (rs P a b) i y ∧ w = v1) (Q := fun o => ∃ x : Int32, o = jX7_rest_156 F (nI s) (nI (cn (rs P a b) 100)) x v1 ∧ FF (rs P a b) 100 x) ?_ ?_ 100 0 F 0 (-4) v1 (by omega) (by omega) ⟨rfl, Or.inr ⟨fun m hm => by omega, rfl⟩, rfl⟩
          · rintro g x y w ⟨rfl, h2, rfl⟩
            refine ⟨y, ?_, h2⟩
            unfold bX7_rest_93
            rw [if_pos (show (100 : Int32) ≤ nI 100 by decide)]
          · rintro g i x y w hi ⟨rfl, h2, rfl⟩
            obtain ⟨d1, d2⟩ := dv10 i hi
            have hr := M_rests F (by omega) (x := i / 10) (y := i % 10) w m2 (by omega) (by omega)
            have hcn := cn_le (rs P a b) i
            refine Or.inr ⟨nI (cn (rs P a b) (i + 1)), _, w, ?_, rfl, h2.s (by omega), rfl⟩
            have e0 : (nI (cn (rs P a b) i) = 0) = (y = -4) := by
              rw [h2.c (by omega), L0]
              exact propext (eqI (by omega) (by omega))
            unfold bX7_rest_93
            rw [if_neg (show ¬ (100 : Int32) ≤ nI i from by rw [L100]; exact nle hi (by omega)), nz10, gd_true, gd_true, d1, d2, hr, bd_s]
            simp only [jn_e, vl_e, nI_s, e0]
            rw [cn]
            have er : al (rc P a b (i / 10) (i % 10)) 10 = rs P a b i := rfl
            rw [er]
            by_cases z : rs P a b i = true
            · simp only [if_pos z, if_neg (show ¬ (1 : Int32) = 0 by decide), nI_s]
              split <;> rfl
            · simp only [if_neg z, if_true]
              rw [show nI (cn (rs P a b) i) + 0 = nI (cn (rs P a b) i + 0) from by rw [L0, nI_add]]
        obtain ⟨x, p1, p2⟩ := pX
        obtain ⟨x', n1, n2⟩ := pN
        have er := p2.un n2
        subst er
        rw [g1, bd_s, p1, m1]
        unfold jX7_rest_83
        rw [jn_e, n1]
        unfold jX6_rest_100 jX7_rest_156
        have hR := h.eq g3.x m3
        by_cases z : nI s = 0
        · rw [if_pos z, if_pos z]; exact ⟨_, _, _, rfl, rfl, hR⟩
        · rw [if_neg z, if_neg z]; exact ⟨_, _, _, rfl, rfl, hR⟩
      · simp only [e, e', k, k', q, q', bd_s, i10, i00]
        exact ⟨_, _, _, rfl, rfl, h⟩
    · simp only [e, e', k, k', bd_s, i10, i00]
      exact ⟨_, _, _, rfl, rfl, h⟩
  · simp only [e, e', bd_s, i00]
    exact ⟨_, _, _, rfl, rfl, h⟩
theorem step_rest {u v : St} (h : RR u v) (x0 x1 x2 : Int32) : ∃ (r : Int32) (u' v' : St), pX6_rest LF x0 x1 x2 u = some (r, u') ∧ pX7_rest LF x0 x1 x2 v = some (r, v') ∧ RR u' v' := st_rest LF (by decide) h x0 x1 x2
