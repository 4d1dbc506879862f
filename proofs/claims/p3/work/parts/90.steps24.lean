/-! PURE: read -/
abbrev inC (c : Nat) (x : Int32) : Prop := 0 ≤ x.toInt ∧ x.toInt ≤ (c : Int) - 1
theorem inC_n {c : Nat} {x : Int32} (h : inC c x) (hc : c ≤ 1000) : x = nI (Int32.toNatClampNeg x) ∧ Int32.toNatClampNeg x < c := by
  obtain ⟨h1, h2⟩ := h
  obtain ⟨n, -, n2, rfl⟩ := nI_in2 (x := x) (lo := 0) (hi := c - 1) ⟨by omega, by omega⟩ (by omega)
  rw [cl (by omega)]
  exact ⟨rfl, by rw [tI (by omega)] at h2; omega⟩
theorem X_hasC (F : Nat) {c : Nat} (u : St) (hc : c ≤ 4) (h0 : u.1 0 = nI c) (x : Int32) : pX0_hasCase F 0 (Int32.toInt64 x) u = some (b01 (inC c x), u) := by
  unfold pX0_hasCase
  rw [show 4 * 0 + 0 = 0 from rfl, h0, X_isIn, bd_s, z01_b01, gd_true, tI64, subL (by omega)]
  rfl
theorem M_isC (F : Nat) {c : Nat} (v : St) (hc : c ≤ 4) (h0 : v.1 0 = nI c) (x : Int32) : pX7_isCase F x v = some (b01 (inC c x), v) := by
  unfold pX7_isCase
  rw [h0, M_in, bd_s, z01_b01, gd_true, tI64, tI64, subL (by omega)]
  rfl
theorem X_hasJ (F : Nat) {c : Nat} (u : St) (hc : c ≤ 3) (h0 : u.1 1 = nI c) (x : Int32) : pX0_hasJudge F 0 x u = some (b01 (inC c x), u) := by
  unfold pX0_hasJudge
  rw [show 4 * 0 + 1 = 1 from rfl, h0, X_isIn, bd_s, z01_b01, gd_true, tI64, subL (by omega)]
  rfl
theorem M_isJ (F : Nat) {c : Nat} (v : St) (hc : c ≤ 3) (h0 : v.1 1 = nI c) (x : Int32) : pX7_isJudge F x v = some (b01 (inC c x), v) := by
  unfold pX7_isJudge
  rw [h0, M_in, bd_s, z01_b01, gd_true, tI64, tI64, subL (by omega)]
  rfl
def pgS (Q : Nat → Nat) (a b : Nat) : Nat → Nat := pgH Q a b (hP Q (stg Q 0 (Q 46)) a b).1 (hP Q (stg Q 0 (Q 46)) a b).2.1 (hP Q (stg Q 0 (Q 46)) a b).2.2.1 (hP Q (stg Q 0 (Q 46)) a b).2.2.2
def pgR (P A B : Nat → Nat) : Nat → Nat → Nat
  | 0 => P
  | t + 1 => pgS (pgR P A B t) (A t) (B t)
theorem pgS_ok {c jn a b : Nat} {Q : Nat → Nat} (h : PgOK c jn Q) (hc : c ≤ 4) (hj : jn ≤ 3) (ha : a < c) (hb : b < jn) : PgOK c jn (pgS Q a b) := by
  obtain ⟨b1, b2, b3, b4, b5⟩ := hP_bd h (stg Q 0 (Q 46)) ha hb
  exact pgH_ok h hc hj ha hb b2 (by omega) b4 b5
/-- the pair is taken -/
def acc (c jn : Nat) (P : Nat → Nat) (C D : Nat → Int32) (t : Nat) : Prop := inC c (C t) ∧ inC jn (D t) ∧ pgR P (fun i => Int32.toNatClampNeg (C i)) (fun i => Int32.toNatClampNeg (D i)) t (24 + Int32.toNatClampNeg (C t)) = 0
theorem acc_ok {c jn : Nat} {P : Nat → Nat} {C D : Nat → Int32} (h : PgOK c jn P) (hc : c ≤ 4) (hj : jn ≤ 3) : ∀ T, (∀ t, t < T → acc c jn P C D t) → PgOK c jn (pgR P (fun i => Int32.toNatClampNeg (C i)) (fun i => Int32.toNatClampNeg (D i)) T)
  | 0, _ => h
  | T + 1, ha => by
    obtain ⟨a1, a2, -⟩ := ha T (by omega)
    exact pgS_ok (acc_ok h hc hj T (fun t ht => ha t (by omega))) hc hj (inC_n a1 (by omega)).2 (inC_n a2 (by omega)).2
theorem acc_v {c jn : Nat} {P : Nat → Nat} {C D : Nat → Int32} (h : PgOK c jn P) (hc : c ≤ 4) (hj : jn ≤ 3) : ∀ T, (∀ t, t < T → acc c jn P C D t) → ∀ x, x < 4 → (pgR P (fun i => Int32.toNatClampNeg (C i)) (fun i => Int32.toNatClampNeg (D i)) T (24 + x) = 0 ↔ P (24 + x) = 0 ∧ ∀ t, t < T → Int32.toNatClampNeg (C t) ≠ x)
  | 0, _, x, hx => ⟨fun q => ⟨q, fun t ht => by omega⟩, fun q => q.1⟩
  | T + 1, ha, x, hx => by
    obtain ⟨a1, a2, -⟩ := ha T (by omega)
    have e1 := (inC_n a1 (by omega)).2
    have e2 := (inC_n a2 (by omega)).2
    have ok := acc_ok h hc hj T (fun t ht => ha t (by omega))
    have ih := acc_v h hc hj T (fun t ht => ha t (by omega)) x hx
    have hb := hP_bd ok (stg (pgR P (fun i => Int32.toNatClampNeg (C i)) (fun i => Int32.toNatClampNeg (D i)) T) 0 (pgR P (fun i => Int32.toNatClampNeg (C i)) (fun i => Int32.toNatClampNeg (D i)) T 46)) e1 e2
    unfold pgR pgS
    by_cases q : x = Int32.toNatClampNeg (C T)
    · constructor
      · intro z
        unfold pgH at z
        rw [if_pos (by omega)] at z
        omega
      · intro z
        exact absurd q.symm (z.2 T (by omega))
    · rw [pgH_o _ (by omega) (by omega) (by omega) (by omega) (by omega), ih]
      constructor
      · rintro ⟨z1, z2⟩
        refine ⟨z1, fun t ht => ?_⟩
        by_cases z : t = T
        · rw [z]; exact fun y => q y.symm
        · exact z2 t (by omega)
      · rintro ⟨z1, z2⟩
        exact ⟨z1, fun t ht => z2 t (by omega)⟩
/-- how many pairs are taken -/
theorem acc_T (p : Nat → Prop) : ∀ w, ∃ T, T ≤ w ∧ (∀ t, t < T → p t) ∧ (T < w → ¬ p T)
  | 0 => ⟨0, Nat.le_refl _, fun t ht => by omega, fun h => by omega⟩
  | w + 1 => by
    obtain ⟨T, h1, h2, h3⟩ := acc_T p w
    by_cases q : T < w
    · exact ⟨T, by omega, h2, fun _ => h3 q⟩
    · have e : T = w := by omega
      subst e
      by_cases z : p T
      · refine ⟨T + 1, Nat.le_refl _, fun t ht => ?_, fun h => by omega⟩
        by_cases y : t = T
        · rw [y]; exact z
        · exact h2 t (by omega)
      · exact ⟨T, by omega, h2, fun _ => z⟩
theorem hd_or : ∀ m, m < 16 → ∀ x, x < 4 → nI m ||| ((1 : Int32) <<< (nI x &&& 31)) = nI (m ||| 2 ^ x) ∧ (m ||| 2 ^ x) < 16 ∧ ∀ y, y < 4 → (m ||| 2 ^ x).testBit y = (m.testBit y || decide (x = y)) := by decide +kernel
/-- a cell of a sheet -/
theorem X_cell (F : Nat) {k i n : Nat} (u : St) (hk : k < 4) (hn : n ≤ 40) (e5 : u.2 65 k = nI n) (hi : i < n) : pX4_cell F (nI k) (nI i) u = some (u.2 63 (40 * k + i), u) := by
  unfold pX4_cell pX4_hasCell
  rw [gd_i (by omega) (by omega), cl (by omega), e5, X_isIn, b01_t (by rw [tI64, tI (by omega), subL (by omega), show (0 : Int32).toInt = 0 from by decide]; omega), bd_s, z01_1, gd_true, bd_s, i10, mt40, nI_add, gd_i (by omega) (by omega), cl (by omega), show k * 40 + i = 40 * k + i by omega]
theorem X_pairs (F : Nat) (hF : 200 ≤ F) {c jn k a n w T : Nat} {P : Nat → Nat} {C D : Nat → Int32} (u : St) (hc4 : c ≤ 4) (hj3 : jn ≤ 3) (hPg : PgOK c jn P) (hX : CtX 0 c jn P u) (hk : k < 4) (hn : n ≤ 40) (e5 : u.2 65 k = nI n) (hw : a + 2 * w ≤ n) (hC : ∀ t, t < w → u.2 63 (40 * k + (a + 2 * t)) = C t ∧ u.2 63 (40 * k + (a + 2 * t + 1)) = D t) (hT1 : T ≤ w) (hT2 : ∀ t, t < T → acc c jn P C D t) (hT3 : T < w → ¬ acc c jn P C D T) : pX6_pairsAccepted F (nI k) (nI a) (nI w) u = some (nI T, u) := by
  unfold pX6_pairsAccepted
  refine lq2_up (n := w) (I := fun i x y => y = u ∧ i ≤ T ∧ ∃ m, m < 16 ∧ x = nI m ∧ ∀ z, z < 4 → (m.testBit z = true ↔ ∃ t, t < i ∧ Int32.toNatClampNeg (C t) = z)) (Q := fun o => o = some (nI T, u)) ?_ ?_ w 0 F 0 u (by omega) (by omega) ⟨rfl, by omega, 0, by omega, rfl, fun z hz => ⟨fun q => by rw [Nat.zero_testBit] at q; exact absurd q (by decide), fun ⟨t, ht, _⟩ => by omega⟩⟩
  · rintro g x y ⟨rfl, h1, -⟩
    unfold bX6_pairsAccepted_6
    rw [if_pos (yle (Nat.le_refl _) (by omega)), show T = w by omega]
  · rintro g i x y hi ⟨rfl, h1, m, m1, rfl, m2⟩
    obtain ⟨c1, c2⟩ := hC i hi
    have k1 := X_cell F (i := a + 2 * i) y hk hn e5 (by omega)
    have k2 := X_cell F (i := a + 2 * i + 1) y hk hn e5 (by omega)
    rw [c1] at k1
    rw [c2] at k2
    have hv := acc_v hPg hc4 hj3 i (fun t ht => hT2 t (by omega))
    have hrun : ∀ s, bX6_pairsAccepted_6 F (nI k) (nI a) (nI w) s (nI m) (nI i) y = bd (pX0_hasCase F 0 (Int32.toInt64 (C i)) y) (fun (r10 : Int32) (u9 : St) => if r10 = 0 then some (nI i, u9) else bd (pX0_hasJudge F 0 (D i) u9) (fun (r12 : Int32) (u11 : St) => if r12 = 0 then some (nI i, u11) else gd (inb (C i) 4) (if (u11.2 3 (Int32.toNatClampNeg (C i))) = 0 then if ((nI m >>> ((C i) &&& 31)) &&& 1) = 0 then vl (nI m ||| (1 <<< ((C i) &&& 31))) (fun v13 => (s v13 (nI (i + 1)) u11)) else some (nI i, u11) else some (nI i, u11)))) := fun s => by
      unfold bX6_pairsAccepted_6
      rw [if_neg (nle hi (by omega)), tm2, nI_add, nI_s, nI_s, k1, bd_s, k2, bd_s]
    by_cases q1 : inC c (C i)
    · obtain ⟨a1, a2⟩ := inC_n q1 (by omega)
      by_cases q2 : inC jn (D i)
      · have e3 : y.2 3 (Int32.toNatClampNeg (C i)) = nI (P (24 + Int32.toNatClampNeg (C i))) := (hX.2.2.2.2.2.1 _ a2).1
        have hb := (hPg.2.2.2.1 _ a2).1
        have hm := m2 (Int32.toNatClampNeg (C i)) (by omega)
        have hvi := hv (Int32.toNatClampNeg (C i)) (by omega)
        have pre : ∀ s, bX6_pairsAccepted_6 F (nI k) (nI a) (nI w) s (nI m) (nI i) y = if P (24 + Int32.toNatClampNeg (C i)) = 0 then (if m.testBit (Int32.toNatClampNeg (C i)) = false then s (nI (m ||| 2 ^ Int32.toNatClampNeg (C i))) (nI (i + 1)) y else some (nI i, y)) else some (nI i, y) := fun s => by
          rw [hrun, X_hasC F y hc4 hX.1, b01_t q1, bd_s, i10, X_hasJ F y hj3 hX.2.1, b01_t q2, bd_s, i10, e3]
          generalize hA : Int32.toNatClampNeg (C i) = A at *
          rw [a1, gd_i (by omega) (by omega), vl_e, (hd_or m m1 A (by omega)).1]
          by_cases z1 : P (24 + A) = 0
          · rw [if_pos z1, if_pos (show nI (P (24 + A)) = 0 by rw [z1]; rfl)]
            by_cases z2 : m.testBit A = false
            · rw [if_pos z2, if_pos ((sh_b0 m m1 A (by omega)).mpr z2)]
            · rw [if_neg z2, if_neg (fun y => z2 ((sh_b0 m m1 A (by omega)).mp y))]
          · rw [if_neg z1, if_neg (n0f z1 (by omega))]
        by_cases hiT : i < T
        · have ai := hT2 i hiT
          obtain ⟨v1, v2⟩ := hvi.mp ai.2.2
          have mf : m.testBit (Int32.toNatClampNeg (C i)) = false := by
            rcases hq : m.testBit (Int32.toNatClampNeg (C i)) with _ | _
            · rfl
            · obtain ⟨t, t1, t2⟩ := hm.mp hq
              exact absurd t2 (v2 t t1)
          obtain ⟨o1, o2, o3⟩ := hd_or m m1 (Int32.toNatClampNeg (C i)) (by omega)
          refine Or.inr ⟨_, y, by rw [pre, if_pos v1, if_pos mf], rfl, by omega, _, o2, rfl, fun z hz => ?_⟩
          rw [o3 z hz, Bool.or_eq_true, decide_eq_true_eq, m2 z hz]
          constructor
          · rintro (⟨t, t1, t2⟩ | t2)
            · exact ⟨t, by omega, t2⟩
            · exact ⟨i, by omega, t2⟩
          · rintro ⟨t, t1, t2⟩
            by_cases z' : t = i
            · rw [z'] at t2; exact Or.inr t2
            · exact Or.inl ⟨t, by omega, t2⟩
        · have hiT' : i = T := by omega
          refine Or.inl ?_
          rw [pre]
          have na := hT3 (by omega)
          rw [← hiT'] at na
          by_cases v1 : P (24 + Int32.toNatClampNeg (C i)) = 0
          · rw [if_pos v1]
            by_cases mf : m.testBit (Int32.toNatClampNeg (C i)) = false
            · exfalso
              refine na ⟨q1, q2, hvi.mpr ⟨v1, fun t ht z => ?_⟩⟩
              have := hm.mpr ⟨t, ht, z⟩
              rw [mf] at this
              exact absurd this (by decide)
            · rw [if_neg mf, hiT']
          · rw [if_neg v1, hiT']
      · have hiT' : i = T := by
          by_cases hiT : i < T
          · exact absurd (hT2 i hiT).2.1 q2
          · omega
        refine Or.inl ?_
        rw [hrun, X_hasC F y hc4 hX.1, b01_t q1, bd_s, i10, X_hasJ F y hj3 hX.2.1, b01_f q2, bd_s, i00, hiT']
    · have hiT' : i = T := by
        by_cases hiT : i < T
        · exact absurd (hT2 i hiT).1 q1
        · omega
      refine Or.inl ?_
      rw [hrun, X_hasC F y hc4 hX.1, b01_f q1, bd_s, i00, hiT']
def eqN (u u' : St) : Prop := (∀ k, (k < 24 ∨ 26 < k) → u'.1 k = u.1 k) ∧ ∀ k, 13 ≤ k → (k < 55 ∨ 58 < k) → u'.2 k = u.2 k
theorem X_hearL (F : Nat) (hF : 200 ≤ F) {c jn k a n w : Nat} {P : Nat → Nat} {C D : Nat → Int32} (J : St → Option (Int32 × St)) (u : St) (hc4 : c ≤ 4) (hj3 : jn ≤ 3) (hPg : PgOK c jn P) (hX : CtX 0 c jn P u) (hk : k < 4) (hn : n ≤ 40) (e5 : u.2 65 k = nI n) (hw : a + 2 * w ≤ n) (hC : ∀ t, t < w → u.2 63 (40 * k + (a + 2 * t)) = C t ∧ u.2 63 (40 * k + (a + 2 * t + 1)) = D t) (hT2 : ∀ t, t < w → acc c jn P C D t) : ∃ u', lq1 (bX6_read_90 F (nI k) (nI a) (nI w) J) F 0 u = J u' ∧ CtX 0 c jn (pgR P (fun i => Int32.toNatClampNeg (C i)) (fun i => Int32.toNatClampNeg (D i)) w) u' ∧ eqN u u' := by
  refine lq1_up (n := w) (I := fun i y => CtX 0 c jn (pgR P (fun i => Int32.toNatClampNeg (C i)) (fun i => Int32.toNatClampNeg (D i)) i) y ∧ eqN u y) (Q := fun o => ∃ u' : St, o = J u' ∧ CtX 0 c jn (pgR P (fun i => Int32.toNatClampNeg (C i)) (fun i => Int32.toNatClampNeg (D i)) w) u' ∧ eqN u u') ?_ ?_ w 0 F u (by omega) (by omega) ⟨hX, fun _ _ => rfl, fun _ _ _ => rfl⟩
  · rintro g y ⟨h1, h2⟩
    refine ⟨y, ?_, h1, h2⟩
    unfold bX6_read_90
    rw [if_pos (yle (Nat.le_refl _) (by omega))]
  · rintro g i y hi ⟨h1, h2⟩
    obtain ⟨c1, c2⟩ := hC i hi
    have e5' : y.2 65 k = nI n := by rw [h2.2 65 (by omega) (by omega)]; exact e5
    have k1 := X_cell F (i := a + 2 * i) y hk hn e5' (by omega)
    have k2 := X_cell F (i := a + 2 * i + 1) y hk hn e5' (by omega)
    rw [h2.2 63 (by omega) (by omega), c1] at k1
    rw [h2.2 63 (by omega) (by omega), c2] at k2
    obtain ⟨a1, a2, -⟩ := hT2 i hi
    obtain ⟨n1, n2⟩ := inC_n a1 (by omega)
    obtain ⟨n3, n4⟩ := inC_n a2 (by omega)
    have ok := acc_ok hPg hc4 hj3 i (fun t ht => hT2 t (by omega))
    obtain ⟨z, z1, z2, z3, z4⟩ := X_good F (by omega) y hc4 hj3 ok h1 n2 n4
    rw [← n1, ← n3] at z1
    refine Or.inr ⟨z, ?_, z2, fun k hk => (z3 k hk).trans (h2.1 k hk), fun k q1 q2 => (z4 k q1 q2).trans (h2.2 k q1 q2)⟩
    unfold bX6_read_90
    rw [if_neg (nle hi (by omega)), tm2, nI_add, nI_s, nI_s, k1, bd_s, k2, bd_s, z1, bd_s]
/-! the reference's -/
theorem M_hearsA (F : Nat) (hF : 200 ≤ F) {c jn : Nat} {Q : Nat → Nat} {x y : Int32} (v : St) (hc4 : c ≤ 4) (hj3 : jn ≤ 3) (hPg : PgOK c jn Q) (hM : PgM 0 Q v) (hE : MEnv 0 0 0 v) (h0 : v.1 0 = nI c) (h1 : v.1 1 = nI jn) (q1 : inC c x) (q2 : inC jn y) (q3 : Q (24 + Int32.toNatClampNeg x) = 0) : ∃ (r : Nat) (v' : St), pX7_hears F x y v = some (nI r, v') ∧ PgM 0 (pgS Q (Int32.toNatClampNeg x) (Int32.toNatClampNeg y)) v' ∧ (∀ k, k ≠ 18 → v'.1 k = v.1 k) ∧ (∀ k, k ≠ 0 → v'.2 k = v.2 k) ∧ (∀ i, 68 ≤ i → v'.2 0 i = v.2 0 i) ∧ r ≤ 3 := by
  obtain ⟨n1, n2⟩ := inC_n q1 (by omega)
  obtain ⟨n3, n4⟩ := inC_n q2 (by omega)
  obtain ⟨v', k1, k2, k3, k4, k5⟩ := M_judges F (by omega) (p := 0) v (by omega) hc4 hj3 hPg hM hE n2 n4
  have hb := hP_bd hPg (stm Q 0 0 0 (Q 46)) n2 n4
  rw [stm_0] at k1 k2 hb
  have k1' : pX7_judgesOn F 0 (nI (Int32.toNatClampNeg x)) (nI (Int32.toNatClampNeg y)) v = some (nI (hP Q (stg Q 0 (Q 46)) (Int32.toNatClampNeg x) (Int32.toNatClampNeg y)).1, v') := k1
  rw [← n1, ← n3] at k1'
  have e24 : (24 : Int32) + x = nI (24 + Int32.toNatClampNeg x) := by
    have := at24 (Int32.toNatClampNeg x)
    rw [← n1] at this
    exact this
  refine ⟨_, v', ?_, k2, k3, k4, fun i hi => k5 i (by omega), hb.2.1⟩
  unfold pX7_hears pX7_isHeard
  rw [M_isC F v hc4 h0, b01_t q1, bd_s, i10, M_isJ F v hj3 h1, b01_t q2, bd_s, i10, bd_s, i10, e24, gd_i (by omega) (by omega), cl (by omega), hM.g (by omega), q3, if_pos (show nI 0 = 0 from rfl), k1', bd_s]
theorem M_hearsN (F : Nat) {c jn : Nat} {Q : Nat → Nat} {x y : Int32} (v : St) (hc4 : c ≤ 4) (hj3 : jn ≤ 3) (hPg : PgOK c jn Q) (hM : PgM 0 Q v) (h0 : v.1 0 = nI c) (h1 : v.1 1 = nI jn) (hn : ¬ (inC c x ∧ inC jn y ∧ Q (24 + Int32.toNatClampNeg x) = 0)) : ∃ r, pX7_hears F x y v = some (r, v) ∧ ¬ 0 ≤ r := by
  unfold pX7_hears pX7_isHeard
  by_cases q1 : inC c x
  · by_cases q2 : inC jn y
    · obtain ⟨n1, n2⟩ := inC_n q1 (by omega)
      have hb := (hPg.2.2.2.1 _ n2).1
      have q3 : Q (24 + Int32.toNatClampNeg x) ≠ 0 := fun z => hn ⟨q1, q2, z⟩
      have e24 : (24 : Int32) + x = nI (24 + Int32.toNatClampNeg x) := by
        have := at24 (Int32.toNatClampNeg x)
        rw [← n1] at this
        exact this
      refine ⟨-2, ?_, by decide⟩
      rw [M_isC F v hc4 h0, b01_t q1, bd_s, i10, M_isJ F v hj3 h1, b01_t q2, bd_s, i10, bd_s, i10, e24, gd_i (by omega) (by omega), cl (by omega), hM.g (by omega), if_neg (n0f q3 (by omega))]
    · refine ⟨-1, ?_, by decide⟩
      rw [M_isC F v hc4 h0, b01_t q1, bd_s, i10, M_isJ F v hj3 h1, b01_f q2, bd_s, i00, bd_s, i00]
  · refine ⟨-1, ?_, by decide⟩
    rw [M_isC F v hc4 h0, b01_f q1, bd_s, i00, bd_s, i00]
/-- the reference while it reads -/
def eqQ (v v' : St) : Prop := (∀ k, k ≠ 18 → v'.1 k = v.1 k) ∧ (∀ k, k ≠ 0 → v'.2 k = v.2 k) ∧ ∀ i, 68 ≤ i → v'.2 0 i = v.2 0 i
theorem irm2 : ∀ i, i < 64 → irm (nI i) 2 = nI (i % 2) := by decide +kernel
theorem nz2 : nz 2 = true := by decide +kernel
theorem M_readH (F : Nat) (hF : 200 ≤ F) {c jn k ln a n N w T : Nat} {P : Nat → Nat} {C D : Nat → Int32} (J : Int32 → Int32 → St → Option (Int32 × St)) (J2 : Int32 → St → Option (Int32 × St)) (v : St) (hc4 : c ≤ 4) (hj3 : jn ≤ 3) (hPg : PgOK c jn P) (hM : PgM 0 P v) (hE : MEnv 0 0 0 v) (h0 : v.1 0 = nI c) (h1 : v.1 1 = nI jn) (hk : k < 4) (hn : n ≤ 40) (hl : ln ≤ 2) (e9 : v.2 9 k = nI ln) (e10 : v.2 10 k = nI n) (hN : N ≤ 20) (hw1 : w ≤ N) (hw2 : a + 2 * w ≤ n) (hw3 : w < N → n < a + 2 * w + 2) (hC : ∀ t, t < w → v.2 11 (40 * k + (a + 2 * t)) = C t ∧ v.2 11 (40 * k + (a + 2 * t + 1)) = D t) (hT1 : T ≤ w) (hT2 : ∀ t, t < T → acc c jn P C D t) (hT3 : T < w → ¬ acc c jn P C D T) :
    (T = w ∧ ∃ v', lq3 (bX7_read_56 F (nI k) (nI ln) (nI a) (nI N) J J2) F 0 0 0 v = J (nI (if w < N then 2 else 0)) (nI w) v' ∧ PgM 0 (pgR P (fun i => Int32.toNatClampNeg (C i)) (fun i => Int32.toNatClampNeg (D i)) w) v' ∧ eqQ v v') ∨ (T < w ∧ ∃ v', lq3 (bX7_read_56 F (nI k) (nI ln) (nI a) (nI N) J J2) F 0 0 0 v = J2 (nI T) v' ∧ eqQ v v') := by
  refine lq3_up (n := 2 * N) (I := fun i x y z => (x = 0 ∧ y = nI (i / 2) ∧ i / 2 ≤ T ∧ PgM 0 (pgR P (fun i => Int32.toNatClampNeg (C i)) (fun i => Int32.toNatClampNeg (D i)) (i / 2)) z ∧ eqQ v z) ∨ (x = nI 2 ∧ y = nI w ∧ T = w ∧ w < N ∧ PgM 0 (pgR P (fun i => Int32.toNatClampNeg (C i)) (fun i => Int32.toNatClampNeg (D i)) w) z ∧ eqQ v z)) (Q := fun o => (T = w ∧ ∃ v' : St, o = J (nI (if w < N then 2 else 0)) (nI w) v' ∧ PgM 0 (pgR P (fun i => Int32.toNatClampNeg (C i)) (fun i => Int32.toNatClampNeg (D i)) w) v' ∧ eqQ v v') ∨ (T < w ∧ ∃ v' : St, o = J2 (nI T) v' ∧ eqQ v v')) ?_ ?_ (2 * N) 0 F 0 0 v (by omega) (by omega) (Or.inl ⟨rfl, rfl, by omega, hM, fun _ _ => rfl, fun _ _ => rfl, fun _ _ => rfl⟩)
  · rintro g x y z (⟨rfl, rfl, b1, b2, b3⟩ | ⟨rfl, rfl, b1, b2, b3, b4⟩)
    · have hTN : w = N := by omega
      refine Or.inl ⟨by omega, z, ?_, ?_, b3⟩
      · unfold bX7_read_56
        rw [tm2, if_pos (yle (Nat.le_refl _) (by omega)), if_neg (by omega), show 2 * N / 2 = w by omega]
        rfl
      · rw [show 2 * N / 2 = w by omega] at b2
        exact b2
    · refine Or.inl ⟨b1, z, ?_, b3, b4⟩
      unfold bX7_read_56
      rw [tm2, if_pos (yle (Nat.le_refl _) (by omega)), if_pos b2]
  · rintro g i x y z hi (⟨rfl, rfl, b1, b2, b3⟩ | ⟨rfl, rfl, b1, b2, b3, b4⟩)
    · have z9 : z.2 9 k = nI ln := by rw [b3.2.1 9 (by omega)]; exact e9
      have z10 : z.2 10 k = nI n := by rw [b3.2.1 10 (by omega)]; exact e10
      have z0 : z.1 0 = nI c := (b3.1 0 (by omega)).trans h0
      have z1 : z.1 1 = nI jn := (b3.1 1 (by omega)).trans h1
      have zE : MEnv 0 0 0 z := by
        obtain ⟨f1, f2, f3, f4, f5, f6, f7⟩ := hE
        exact ⟨f1, (b3.1 15 (by omega)).trans f2, Or.inl rfl, (b3.1 17 (by omega)).trans f4, f5, f6, (b3.2.1 1 (by omega)).trans f7⟩
      have hk4 : ∀ o : Option (Int32 × St), gd (inb (nI k) 4) o = o := fun o => gd_i hk (by omega) o
      have hin : pX7_in F (Int32.toInt64 (nI a) + Int32.toInt64 (nI i)) 0 (Int32.toInt64 (nI n - 1)) z = some (b01 (a + i < n), z) := by
        rw [M_in, n2l (by omega), n2l (by omega), lN_add, pk_lT (by omega), tI64, subL (by omega), show (0 : Int64).toInt = 0 from by decide]
        by_cases q : a + i < n
        · rw [b01_t q, b01_t (by omega)]
        · rw [b01_f q, b01_f (by omega)]
      have hrun : bX7_read_56 F (nI k) (nI ln) (nI a) (nI N) J J2 g 0 (nI (i / 2)) (nI i) z = if a + i < n then (if i % 2 = 1 then bd (pX7_hears F (v.2 11 (40 * k + a + i - 1)) (v.2 11 (40 * k + a + i)) z) (fun (r26 : Int32) (u25 : St) => if 0 ≤ r26 then g 0 (nI (i / 2 + 1)) (nI (i + 1)) u25 else J2 (nI (i / 2)) u25) else g 0 (nI (i / 2)) (nI (i + 1)) z) else g 2 (nI (i / 2)) (nI (i + 1)) z := by
        unfold bX7_read_56
        rw [tm2, if_neg (nle hi (by omega)), if_pos rfl]
        simp only [hk4, jn_e, cl (show k < 2147483648 by omega), z9, z10, hin, bd_s, nI_s]
        rw [if_neg (m4_lt (by omega)).2.1, if_pos trivial]
        by_cases q : a + i < n
        · rw [b01_t q, if_pos q, i10, if_pos trivial, nz2, gd_true, irm2 i (by omega), tm40, nI_add, nI_add]
          by_cases q2 : i % 2 = 1
          · rw [if_pos q2, if_pos (show nI (i % 2) = 1 by rw [q2]; rfl), vl_e, L1, subI (by omega), gd_i (by omega) (by omega), gd_i (by omega) (by omega), cl (by omega), cl (by omega), b3.2.1 11 (by omega)]
          · rw [if_neg q2, if_neg (show ¬ nI (i % 2) = 1 by rw [show i % 2 = 0 by omega]; decide)]
        · rw [b01_f q, if_neg q, i00, if_neg (show ¬ (2 : Int32) = 0 by decide)]
      by_cases q : a + i < n
      · by_cases q2 : i % 2 = 1
        · obtain ⟨t, rfl⟩ : ∃ t, i = 2 * t + 1 := ⟨i / 2, by omega⟩
          have ht : (2 * t + 1) / 2 = t := by omega
          rw [ht] at b1 b2 hrun ⊢
          have htw : t < w := by
            rcases Nat.lt_or_ge t w with z | z
            · exact z
            · have := hw3 (by omega)
              omega
          obtain ⟨c1, c2⟩ := hC t htw
          rw [if_pos q, if_pos q2, show 40 * k + a + (2 * t + 1) - 1 = 40 * k + (a + 2 * t) by omega, show 40 * k + a + (2 * t + 1) = 40 * k + (a + 2 * t + 1) by omega, c1, c2] at hrun
          have ok := acc_ok hPg hc4 hj3 t (fun t' ht' => hT2 t' (by omega))
          by_cases hT : t < T
          · obtain ⟨a1, a2, a3⟩ := hT2 t hT
            obtain ⟨r, z', k1, k2, k3, k4, k5, k6⟩ := M_hearsA F hF z hc4 hj3 ok b2 zE z0 z1 a1 a2 a3
            refine Or.inr ⟨0, nI (t + 1), z', ?_, Or.inl ⟨rfl, by rw [show (2 * t + 1 + 1) / 2 = t + 1 by omega], by omega, by rw [show (2 * t + 1 + 1) / 2 = t + 1 by omega]; exact k2, fun k hk => (k3 k hk).trans (b3.1 k hk), fun k hk => (k4 k hk).trans (b3.2.1 k hk), fun k hk => (k5 k hk).trans (b3.2.2 k hk)⟩⟩
            rw [hrun, k1, bd_s, if_pos (show (0 : Int32) ≤ nI r from by rw [L0]; exact yle (by omega) (by omega))]
          · have hTt : t = T := by omega
            obtain ⟨r, k1, k2⟩ := M_hearsN F z hc4 hj3 ok b2 z0 z1 (by have := hT3 (by omega); rw [← hTt] at this; exact this)
            refine Or.inl (Or.inr ⟨by omega, z, ?_, b3⟩)
            rw [hrun, k1, bd_s, if_neg k2, hTt]
        · refine Or.inr ⟨0, nI (i / 2), z, by rw [hrun, if_pos q, if_neg q2], Or.inl ⟨rfl, by rw [show (i + 1) / 2 = i / 2 by omega], by omega, by rw [show (i + 1) / 2 = i / 2 by omega]; exact b2, b3⟩⟩
      · have hwT : w = i / 2 := by omega
        refine Or.inr ⟨2, nI (i / 2), z, by rw [hrun, if_neg q], Or.inr ⟨rfl, by rw [hwT], by omega, by omega, by rw [hwT]; exact b2, b3⟩⟩
    · refine Or.inl (Or.inl ⟨b1, z, ?_, b3, b4⟩)
      unfold bX7_read_56
      rw [tm2, if_neg (nle hi (by omega)), if_neg (show ¬ nI 2 = 0 by decide), if_pos b2]
/-- what is torn is told on both sides -/
theorem RR.tn {u v : St} (h : RR u v) (x : Int32) : RR (stf u 16 x) (stf v 22 x) := by
  obtain ⟨c, jn, P, ⟨c1, c2, c3, hX, c5, c6, c7⟩, i0, i1, hs, ht, hw, htn, hsh, hc⟩ := h
  have im : ∀ k, k < 2 → RImg k c jn u v → RImg k c jn (stf u 16 x) (stf v 22 x) := fun k hk q => q.same hk (fun i hi => by rw [stf_1, if_neg (by omega)]) (fun i hi => rfl) rfl rfl (fun i hi => rfl)
  refine ⟨c, jn, P, ⟨c1, c2, c3, hX.frj (fun i hi => by rw [stf_1, if_neg (by omega)]) (fun i hi => rfl), by rw [stf_1, if_neg (by omega)]; exact c5, by rw [stf_1, if_neg (by omega)]; exact c6, c7⟩, im 0 (by omega) i0, im 1 (by omega) i1, ?_, ?_, ?_, ?_, ?_, ?_⟩
  · exact hs.fr (by rw [stf_1, if_neg (by omega)]) rfl rfl rfl (by rw [stf_1, if_neg (by omega)]) rfl
  · exact ht.fr (by rw [stf_1, if_neg (by omega)]) rfl (by rw [stf_1, if_neg (by omega)]) rfl
  · rw [stf_1, if_neg (by omega), stf_1, if_neg (by omega)]; exact hw
  · rw [stf_1, if_pos rfl, stf_1, if_pos rfl]
  · exact fun k hk => (hsh k hk).fr rfl rfl rfl rfl rfl rfl
  · exact hc.fr (by rw [stf_1, if_neg (by omega)]) (by rw [stf_1, if_neg (by omega)]) rfl rfl rfl
theorem X_read0 (F : Nat) (hF : 200 ≤ F) (p1 p3 p4 a5 : Int32) (u : St) : bd (pX6_pairsAccepted F p1 p3 0 u) (fun (r10 : Int32) (u9 : St) => if 0 ≤ r10 then lq1 (bX6_read_90 F p1 p3 0 (jX6_read_138 F p4 a5 0)) F 0 u9 else some (((-20) - r10), u9)) = some (0, stf u 16 (if a5 = 0 then if p4 ≤ 0 then a5 else 2 else a5)) := by
  obtain ⟨f, hf⟩ : ∃ f, F = f + 1 := ⟨F - 1, by omega⟩
  have z0 : (0 : Int32) ≤ 0 := by decide
  have e1 : pX6_pairsAccepted F p1 p3 0 u = some (0, u) := by
    unfold pX6_pairsAccepted
    generalize hg : lq2 (bX6_pairsAccepted_6 F p1 p3 0) F = G
    have hg' : G = lq2 (bX6_pairsAccepted_6 F p1 p3 0) (f + 1) := by rw [← hg]; exact congrArg _ hf
    rw [hg', lq2_s]
    unfold bX6_pairsAccepted_6
    rw [if_pos z0]
  have e2 : ∀ J : St → Option (Int32 × St), lq1 (bX6_read_90 F p1 p3 0 J) F 0 u = J u := fun J => by
    generalize hg : lq1 (bX6_read_90 F p1 p3 0 J) F = G
    have hg' : G = lq1 (bX6_read_90 F p1 p3 0 J) (f + 1) := by rw [← hg]; exact congrArg _ hf
    rw [hg', lq1_s]
    unfold bX6_read_90
    rw [if_pos z0]
  rw [e1, bd_s, if_pos z0, e2]
  unfold jX6_read_138
  simp only [jn_e, vl_e]
  by_cases q : a5 = 0
  · rw [if_pos q, if_pos q]
    by_cases q2 : p4 ≤ 0
    · rw [if_pos q2, if_pos q2]
    · rw [if_neg q2, if_neg q2]
  · rw [if_neg q, if_neg q]
theorem M_read1 (F : Nat) (hF : 200 ≤ F) {N : Nat} (hN0 : 0 < N) (hN : N ≤ 20) (p1 p2 p3 e : Int32) (he : ¬ e = 0) (J : Int32 → Int32 → St → Option (Int32 × St)) (J2 : Int32 → St → Option (Int32 × St)) (v : St) (h : ∀ g, bX7_read_56 F p1 p2 p3 (nI N) J J2 g 0 0 0 v = g e 0 (0 + 1) v) : lq3 (bX7_read_56 F p1 p2 p3 (nI N) J J2) F 0 0 0 v = J e 0 v := by
  obtain ⟨f, hf⟩ : ∃ f, F = f + 1 + 1 := ⟨F - 2, by omega⟩
  generalize hg : lq3 (bX7_read_56 F p1 p2 p3 (nI N) J J2) F = G
  have hg' : G = lq3 (bX7_read_56 F p1 p2 p3 (nI N) J J2) (f + 1 + 1) := by rw [← hg]; exact congrArg _ hf
  rw [hg', lq3_s, h, lq3_s]
  unfold bX7_read_56
  rw [tm2, show (0 : Int32) + 1 = nI 1 from by decide +kernel, if_neg (nle (by omega) (by omega)), if_neg he]
theorem X_whole (F : Nat) {k n a N : Nat} (u : St) (hk : k < 4) (hn : n ≤ 40) (e5 : u.2 65 k = nI n) (ha : a < n) (hN : N ≤ 20) : pX4_wholePairs F (nI k) (nI a) (nI N) u = some (nI (if (n - a) / 2 < N then (n - a) / 2 else N), u) := by
  unfold pX4_wholePairs pX4_hasCell
  rw [gd_i (by omega) (by omega), cl (by omega), e5, X_isIn, b01_t (by rw [tI64, tI (by omega), subL (by omega), show (0 : Int32).toInt = 0 from by decide]; omega), bd_s, z01_1, gd_true, bd_s, i10, gd_i (by omega) (by omega), nz2, gd_true, e5, subI (by omega), L2, pk_div (by omega) (by omega) (by omega), iflt (by omega) (by omega)]
  by_cases q : (n - a) / 2 < N
  · rw [if_pos q, if_pos q]
  · rw [if_neg q, if_neg q]
theorem X_wholeN (F : Nat) {k : Nat} (u : St) (x y : Int32) (h : pX4_hasCell F (nI k) x u = some (0, u)) : pX4_wholePairs F (nI k) x y u = some (0, u) := by
  unfold pX4_wholePairs
  rw [h, bd_s, i00]
theorem X_noCell (F : Nat) {k : Nat} (u : St) (hk : k < 4) (x : Int32) (e : u.2 65 k = -4) : pX4_hasCell F (nI k) x u = some (0, u) := by
  unfold pX4_hasCell
  rw [gd_i (by omega) (by omega), cl (by omega), e, X_isIn, b01_f (by rw [tI64, show ((-4 : Int32) - 1).toInt = -5 from by decide, show (0 : Int32).toInt = 0 from by decide]; omega), bd_s, z01_0, gd_true]
theorem i20 {α : Type} (a b : α) : (if (2 : Int32) = 0 then a else b) = b := if_neg (by decide)
theorem i30 {α : Type} (a b : α) : (if (3 : Int32) = 0 then a else b) = b := if_neg (by decide)
theorem st_read (F : Nat) (hLF : 200 ≤ F) {u v : St} (h : RR u v) (x0 x1 x2 x3 : Int32) : ∃ (r : Int32) (u' v' : St), pX6_read F x0 x1 x2 x3 u = some (r, u') ∧ pX7_read F x0 x1 x2 x3 v = some (r, v') ∧ RR u' v' := by
  obtain ⟨c, jn, P, ⟨c1, c2, c3, hX, c5, c6, c7⟩, R⟩ := id h
  have R' : Rest c jn u v := R
  obtain ⟨i0, i1, hs, ht, hw, htn, hsh, hc⟩ := id R'
  unfold pX6_read pX7_read
  rcases two_sheet x0 x1 with ⟨k, ln, hk, hl, rfl, rfl, e, e0, e1⟩ | ⟨e, e0 | ⟨e0, e1⟩⟩
  · rcases rng x3 (a0 := 0) (b0 := 20) (a1 := 0) (b1 := 20) 0 20 rfl rfl rfl rfl (by omega) (by omega) with ⟨N, N1, N2, rfl, t, t'⟩ | ⟨-, t, t'⟩
    · have hN : N ≤ 20 := by omega
      obtain ⟨y, m1, m2, m3, m4, m5⟩ := M_copies F (by omega) (p := 0) (q := 3) (by omega) (by omega) (by omega) v
      have m1' : pX7_copies F 0 204 v = some ((), y) := m1
      have ey : eqM v y := ⟨fun i hi => m5 i (by omega), ⟨congrFun m2 0, congrFun m2 1, congrFun m2 7, congrFun m2 8, congrFun m2 15, congrFun m2 17, congrFun m2 21, congrFun m2 22⟩, fun k hk => m3 k (by omega)⟩
      have hR0 : RR u y := h.eq eqX.rf ey
      have g4 : ∀ o : Option (Int32 × St), gd (inb (nI k) 4) o = o := fun o => gd_i hk (by omega) o
      have ck : Int32.toNatClampNeg (nI k) = k := cl (by omega)
      rw [e, bd_s, i10, t, bd_s, i10, e0, bd_s, i10, e1, bd_s, i10, t', bd_s, i10, m1', bd_s, jn_e (jX7_read_198 F), jn_e (jX7_read_175 F)]
      simp only [jn_e, if_true]
      have y9 : y.2 9 = v.2 9 := m3 9 (by omega)
      have y10 : y.2 10 = v.2 10 := m3 10 (by omega)
      have y11 : y.2 11 = v.2 11 := m3 11 (by omega)
      by_cases hN0 : N = 0
      · subst hN0
        have wh : pX4_wholePairs F (nI k) x2 (nI 0) u = some (0, u) := by
          rcases hsh k hk with ⟨a, b⟩ | ⟨l', n, a1, a2, a3, a4, a5, a6, a7⟩
          · exact X_wholeN F u x2 _ (X_noCell F u hk x2 a)
          · rcases two_cell hk a2 a5 a6 x2 with ⟨i, hi, rfl, g, -⟩ | ⟨-, g, -⟩
            · rw [X_whole F u hk a2 a5 hi (by omega), if_neg (by omega)]; rfl
            · exact X_wholeN F u x2 _ (g F)
        have hM0 : lq3 (bX7_read_56 F (nI k) (nI ln) x2 (nI 0) (jX7_read_198 F) (jX7_read_175 F)) F 0 0 0 y = jX7_read_198 F 0 0 y := by
          obtain ⟨f, hf⟩ : ∃ f, F = f + 1 := ⟨F - 1, by omega⟩
          generalize hg : lq3 (bX7_read_56 F (nI k) (nI ln) x2 (nI 0) (jX7_read_198 F) (jX7_read_175 F)) F = G
          have hg' : G = lq3 (bX7_read_56 F (nI k) (nI ln) x2 (nI 0) (jX7_read_198 F) (jX7_read_175 F)) (f + 1) := by rw [← hg]; exact congrArg _ hf
          rw [hg', lq3_s]
          unfold bX7_read_56
          rw [tm2, if_pos (show nI (2 * 0) ≤ 0 by decide)]
        rw [if_pos (show nI 0 = 0 from rfl), wh, bd_s, X_read0 F hLF, hM0]
        refine ⟨0, _, _, rfl, rfl, ?_⟩
        rw [if_pos rfl, if_pos (show nI 0 ≤ 0 by decide)]
        exact hR0.tn 0
      · rw [if_neg (n0f hN0 (by omega))]
        unfold pX4_faultAs pX4_isNothing
        rw [g4, ck]
        rcases hsh k hk with ⟨a, b⟩ | ⟨l', n, a1, a2, a3, a4, a5, a6, a7⟩
        · -- nothing
          have hb : ∀ g, bX7_read_56 F (nI k) (nI ln) x2 (nI N) (jX7_read_198 F) (jX7_read_175 F) g 0 0 0 y = g 1 0 (0 + 1) y := fun g => by
            unfold bX7_read_56
            rw [tm2, if_neg (show ¬ nI (2 * N) ≤ 0 from by rw [L0]; exact nle (by omega) (by omega)), if_pos rfl, g4, ck, y9, b]
            simp only [jn_e, i10, if_true]
          rw [a, if_pos rfl, bd_s, i10, bd_s, i10, X_read0 F hLF, M_read1 F hLF (by omega) hN (nI k) (nI ln) x2 1 (by decide) (jX7_read_198 F) (jX7_read_175 F) y hb]
          refine ⟨0, _, _, rfl, rfl, ?_⟩
          rw [if_neg (show ¬ (1 : Int32) = 0 by decide)]
          exact hR0.tn 1
        · rw [a5, if_neg (m4_lt (by omega)).2.1, bd_s, i00, g4, a3, ifeq (by omega) (by omega)]
          by_cases hln : l' = ln
          · subst hln
            rw [if_pos rfl, bd_s, i00]
            have a6' : y.2 10 k = nI n := by rw [y10]; exact a6
            rcases two_cell hk a2 a5 a6' x2 with ⟨a, hi, rfl, g, -⟩ | ⟨-, g, g'⟩
            · -- the pairs
              obtain ⟨w, hwd⟩ : ∃ w, w = if (n - a) / 2 < N then (n - a) / 2 else N := ⟨_, rfl⟩
              have w1 : w ≤ N := by rw [hwd]; split <;> omega
              have w2 : a + 2 * w ≤ n := by rw [hwd]; split <;> omega
              have w3 : w < N → n < a + 2 * w + 2 := by rw [hwd]; split <;> omega
              rw [X_whole F u hk a2 a5 hi hN, ← hwd, bd_s]
              obtain ⟨T, T1, T2, T3⟩ := acc_T (acc c jn P (fun t => u.2 63 (40 * k + (a + 2 * t))) (fun t => u.2 63 (40 * k + (a + 2 * t + 1)))) w
              rw [X_pairs F hLF u c1 c2 c3 hX hk a2 a5 w2 (fun t ht => ⟨rfl, rfl⟩) T1 T2 T3, bd_s]
              have mE := eqM.rf (v := v)
              have yE : MEnv 0 0 0 y := by
                obtain ⟨f1, f2, f3, f4, f5, f6, f7⟩ := menv0 hc
                exact ⟨f1, (congrFun m2 15).trans f2, Or.inl rfl, (congrFun m2 17).trans f4, f5, f6, (m3 1 (by omega)).trans f7⟩
              have yM : PgM 0 P y := fun i hi => (m5 _ (by omega)).trans (c7 i hi)
              have hmain := M_readH F hLF (C := fun t => u.2 63 (40 * k + (a + 2 * t))) (D := fun t => u.2 63 (40 * k + (a + 2 * t + 1))) (jX7_read_198 F) (jX7_read_175 F) y c1 c2 c3 yM yE ((congrFun m2 0).trans c5) ((congrFun m2 1).trans c6) hk a2 hl (by rw [y9]; exact a4) a6' hN w1 w2 w3 (fun t ht => by rw [y11]; exact ⟨(a7 _ (by omega)).symm, (a7 _ (by omega)).symm⟩) T1 T2 T3
              rcases hmain with ⟨q1, z, z1, z2, z3⟩ | ⟨q1, z, z1, z3⟩
              · rw [z1, if_pos (yle (show w ≤ T by omega) (by omega))]
                obtain ⟨u', k1, k2, k3⟩ := X_hearL F hLF (C := fun t => u.2 63 (40 * k + (a + 2 * t))) (D := fun t => u.2 63 (40 * k + (a + 2 * t + 1))) (jX6_read_138 F (nI N) 0 (nI w)) u c1 c2 c3 hX hk a2 a5 w2 (fun t ht => ⟨rfl, rfl⟩) (fun t ht => T2 t (by omega))
                rw [k1]
                have ok := acc_ok c3 c1 c2 w (fun t ht => T2 t (by omega))
                have hR1 : RR u' z := ⟨c, jn, _, ⟨c1, c2, ok, k2, (z3.1 0 (by omega)).trans ((congrFun m2 0).trans c5), (z3.1 1 (by omega)).trans ((congrFun m2 1).trans c6), z2⟩, R'.frw (fun k h1 h2 => k3.1 k (by omega)) (fun k h1 h2 => k3.2 k h1 (by omega)) (fun k hk => (z3.1 k (by omega)).trans (congrFun m2 k)) (fun k hk => (z3.2.1 k (by omega)).trans (m3 k (by omega))) (fun i h1 h2 => (z3.2.2 i h1).trans (m5 i (by omega)))⟩
                refine ⟨nI w, _, _, ?_, rfl, hR1.tn (nI (if w < N then 2 else 0))⟩
                unfold jX6_read_138
                simp only [jn_e, vl_e, if_true]
                by_cases q : w < N
                · rw [if_neg (nle q (by omega)), if_pos q]; rfl
                · rw [if_pos (yle (by omega) (by omega)), if_neg q]; rfl
              · rw [z1, if_neg (nle q1 (by omega))]
                obtain ⟨z', n1, n2, n3, n4, n5⟩ := M_copies F (by omega) (p := 3) (q := 0) (by omega) (by omega) (by omega) z
                have n1' : pX7_copies F 204 0 z = some ((), z') := n1
                refine ⟨-20 - nI T, u, z', rfl, ?_, h.eq eqX.rf ⟨fun i hi => ?_, ⟨?_, ?_, ?_, ?_, ?_, ?_, ?_, ?_⟩, fun k hk => (n3 k (by omega)).trans ((z3.2.1 k (by omega)).trans (m3 k (by omega)))⟩⟩
                · unfold jX7_read_175
                  rw [n1', bd_s]
                · by_cases q : i < 68
                  · have s1 := n4 i q
                    have s2 := m4 i q
                    rw [show 68 * 0 + i = i by omega] at s1 s2
                    rw [s1, z3.2.2 _ (by omega), s2]
                  · rw [n5 i (by omega), z3.2.2 i (by omega), m5 i (by omega)]
                · exact (congrFun n2 0).trans ((z3.1 0 (by omega)).trans (congrFun m2 0))
                · exact (congrFun n2 1).trans ((z3.1 1 (by omega)).trans (congrFun m2 1))
                · exact (congrFun n2 7).trans ((z3.1 7 (by omega)).trans (congrFun m2 7))
                · exact (congrFun n2 8).trans ((z3.1 8 (by omega)).trans (congrFun m2 8))
                · exact (congrFun n2 15).trans ((z3.1 15 (by omega)).trans (congrFun m2 15))
                · exact (congrFun n2 17).trans ((z3.1 17 (by omega)).trans (congrFun m2 17))
                · exact (congrFun n2 21).trans ((z3.1 21 (by omega)).trans (congrFun m2 21))
                · exact (congrFun n2 22).trans ((z3.1 22 (by omega)).trans (congrFun m2 22))
            · have hb : ∀ gg, bX7_read_56 F (nI k) (nI l') x2 (nI N) (jX7_read_198 F) (jX7_read_175 F) gg 0 0 0 y = gg 2 0 (0 + 1) y := fun gg => by
                have s0 : Int32.toInt64 x2 + Int32.toInt64 0 = Int32.toInt64 x2 := by
                  rw [show Int32.toInt64 0 = 0 from by decide, Int64.add_zero]
                unfold bX7_read_56
                rw [tm2, if_neg (show ¬ nI (2 * N) ≤ 0 from by rw [L0]; exact nle (by omega) (by omega)), if_pos rfl]
                simp only [g4, ck, y9, a4, jn_e, s0, g' F, bd_s, if_true, i20]
                rw [if_neg (m4_lt (by omega)).2.1]
              rw [X_wholeN F u x2 _ (g F), bd_s, X_read0 F hLF, M_read1 F hLF (by omega) hN (nI k) (nI l') x2 2 (by decide) (jX7_read_198 F) (jX7_read_175 F) y hb]
              refine ⟨0, _, _, rfl, rfl, ?_⟩
              rw [if_pos rfl, if_neg (show ¬ nI N ≤ 0 from by rw [L0]; exact nle (by omega) (by omega))]
              exact hR0.tn 2
          · have hb : ∀ gg, bX7_read_56 F (nI k) (nI ln) x2 (nI N) (jX7_read_198 F) (jX7_read_175 F) gg 0 0 0 y = gg 3 0 (0 + 1) y := fun gg => by
              unfold bX7_read_56
              rw [tm2, if_neg (show ¬ nI (2 * N) ≤ 0 from by rw [L0]; exact nle (by omega) (by omega)), if_pos rfl, g4, ck, y9, a4]
              simp only [jn_e]
              rw [if_neg (m4_lt (by omega)).2.1, g4, if_neg (neI hln (by omega) (by omega)), i30]
            rw [if_neg hln, bd_s, i30, X_read0 F hLF, M_read1 F hLF (by omega) hN (nI k) (nI ln) x2 3 (by decide) (jX7_read_198 F) (jX7_read_175 F) y hb]
            refine ⟨0, _, _, rfl, rfl, ?_⟩
            rw [if_neg (show ¬ (3 : Int32) = 0 by decide)]
            exact hR0.tn 3
    · rw [e, bd_s, i10, t, bd_s, i00, e0, bd_s, i10, e1, bd_s, i10, t', bd_s, i00]
      exact ⟨_, _, _, rfl, rfl, h⟩
  · rw [e, bd_s, i00, e0, bd_s, i00]
    exact ⟨_, _, _, rfl, rfl, h⟩
  · rw [e, bd_s, i00, e0, bd_s, i10, e1, bd_s, i00]
    exact ⟨_, _, _, rfl, rfl, h⟩
theorem step_read {u v : St} (h : RR u v) (x0 x1 x2 x3 : Int32) : ∃ (r : Int32) (u' v' : St), pX6_read LF x0 x1 x2 x3 u = some (r, u') ∧ pX7_read LF x0 x1 x2 x3 v = some (r, v') ∧ RR u' v' := st_read LF (by decide) h x0 x1 x2 x3
