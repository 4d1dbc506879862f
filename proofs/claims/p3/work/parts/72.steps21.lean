/-! PURE: what is seen -/
theorem RSeen.fn {c jn : Nat} {u v : St} (h : RSeen c jn u v) (hc : c ≤ 4) (hj : jn ≤ 3) : ∃ (n : Nat) (A B D : Nat → Nat), n ≤ 6 ∧ u.1 29 = nI n ∧ v.1 21 = nI n ∧ ∀ i, i < n → A i < c ∧ B i < jn ∧ 1 ≤ D i ∧ D i ≤ 3 ∧ u.2 60 i = nI (A i) ∧ u.2 61 i = nI (B i) ∧ u.2 62 i = nI (D i) ∧ v.2 7 (3 * i) = nI (A i) ∧ v.2 7 (3 * i + 1) = nI (B i) ∧ v.2 7 (3 * i + 2) = nI (D i) := by
  obtain ⟨n, n1, n2, n3, n4⟩ := h
  refine ⟨n, fun i => Int32.toNatClampNeg (u.2 60 i), fun i => Int32.toNatClampNeg (u.2 61 i), fun i => Int32.toNatClampNeg (u.2 62 i), n1, n2, n3, fun i hi => ?_⟩
  obtain ⟨a, b, d, a1, a2, a3, a4, a5, a6, a7, a8, a9, a10⟩ := n4 i hi
  show Int32.toNatClampNeg (u.2 60 i) < c ∧ Int32.toNatClampNeg (u.2 61 i) < jn ∧ 1 ≤ Int32.toNatClampNeg (u.2 62 i) ∧ Int32.toNatClampNeg (u.2 62 i) ≤ 3 ∧ u.2 60 i = nI (Int32.toNatClampNeg (u.2 60 i)) ∧ u.2 61 i = nI (Int32.toNatClampNeg (u.2 61 i)) ∧ u.2 62 i = nI (Int32.toNatClampNeg (u.2 62 i)) ∧ v.2 7 (3 * i) = nI (Int32.toNatClampNeg (u.2 60 i)) ∧ v.2 7 (3 * i + 1) = nI (Int32.toNatClampNeg (u.2 61 i)) ∧ v.2 7 (3 * i + 2) = nI (Int32.toNatClampNeg (u.2 62 i))
  rw [a5, a6, a7, cl (show a < 2147483648 by omega), cl (show b < 2147483648 by omega), cl (show d < 2147483648 by omega)]
  exact ⟨a1, a2, a3, a4, rfl, rfl, rfl, a8, a9, a10⟩
/-- the page were this judge of this habit and so slow -/
def jP (P : Nat → Nat) (j hb sl : Nat) : Nat → Nat := pu (pu P (40 + j) hb) (43 + j) sl
theorem jP_ok {c jn j hb sl : Nat} {P : Nat → Nat} (h : PgOK c jn P) (hc : c ≤ 4) (hj : jn ≤ 3) (hjj : j < jn) (h1 : hb ≤ 3) (h2 : 1 ≤ sl) (h3 : sl ≤ 9) : PgOK c jn (jP P j hb sl) := (h.put hc hj (by omega) (by omega) (by omega) (by omega) (by omega) (by omega) (by omega) (by omega) (by omega)).put hc hj (by omega) (by omega) (by omega) (by omega) (by omega) (by omega) (by omega) (by omega) (by omega)
theorem pu_id (P : Nat → Nat) (k : Nat) : pu P k (P k) = P := by
  funext j
  unfold pu
  split
  · next h => rw [h]
  · rfl
theorem jP_h (P : Nat → Nat) (j hb : Nat) (hj : j < 3) : jP P j hb (P (43 + j)) = pu P (40 + j) hb := by
  have e : pu P (40 + j) hb (43 + j) = P (43 + j) := pu_n P (by omega)
  unfold jP
  rw [← e, pu_id]
theorem jP_s (P : Nat → Nat) (j sl : Nat) : jP P j (P (40 + j)) sl = pu P (43 + j) sl := by
  unfold jP
  rw [pu_id]
theorem jP_S (P : Nat → Nat) {j : Nat} (hj : j < 3) (hb sl : Nat) : stg (jP P j hb sl) 0 (jP P j hb sl 46) = stg P 0 (P 46) := by
  unfold jP
  rw [stg_pu46 _ (by omega), stg_pu46 _ (by omega)]
/-- all is as seen -/
def fit (P S A B D : Nat → Nat) (n : Nat) : Bool := al (fun i => decide ((hP P S (A i) (B i)).1 = D i)) n
theorem X_fits (F : Nat) (hF : 80 ≤ F) {c jn j hb sl n : Nat} {P A B D : Nat → Nat} (u : St) (hc4 : c ≤ 4) (hj3 : jn ≤ 3) (hPg : PgOK c jn P) (hX : CtX 0 c jn P u) (hjj : j < jn) (h1 : hb ≤ 3) (h2 : 1 ≤ sl) (h3 : sl ≤ 9) (hn : n ≤ 6) (hn' : u.1 29 = nI n) (hm : ∀ i, i < n → A i < c ∧ B i < jn ∧ 1 ≤ D i ∧ D i ≤ 3 ∧ u.2 60 i = nI (A i) ∧ u.2 61 i = nI (B i) ∧ u.2 62 i = nI (D i)) : ∃ u', pX1_fits F (nI j) (nI hb) (nI sl) u = some (if fit (jP P j hb sl) (stg P 0 (P 46)) A B D n = true then 1 else 0, u') ∧ eqT u u' := by
  unfold pX1_fits
  refine lq1_up (n := n) (I := fun i w => eqT u w ∧ ∀ o, o < i → decide ((hP (jP P j hb sl) (stg P 0 (P 46)) (A o) (B o)).1 = D o) = true) (Q := fun o => ∃ u' : St, o = some (if fit (jP P j hb sl) (stg P 0 (P 46)) A B D n = true then 1 else 0, u') ∧ eqT u u') ?_ ?_ n 0 F u (by omega) (by omega) ⟨eqT.rf, fun o ho => by omega⟩
  · rintro g w ⟨hw, ho⟩
    refine ⟨w, ?_, hw⟩
    have e : w.1 29 = nI n := (hw.1 29 (by omega)).trans hn'
    unfold bX1_fits_3
    rw [e, if_pos (yle (Nat.le_refl _) (by omega)), if_pos (show fit (jP P j hb sl) (stg P 0 (P 46)) A B D n = true from al_i ho)]
  · rintro g i w hi ⟨hw, ho⟩
    have e : w.1 29 = nI n := (hw.1 29 (by omega)).trans hn'
    obtain ⟨a1, a2, a3, a4, a5, a6, a7⟩ := hm i hi
    have b60 : w.2 60 i = nI (A i) := by rw [hw.2 60 (by omega)]; exact a5
    have b61 : w.2 61 i = nI (B i) := by rw [hw.2 61 (by omega)]; exact a6
    obtain ⟨y, y1, y2, y3⟩ := X_prepP F (by omega) w hc4 hj3 hPg (hX.eq (by omega) hw.x) a1 a2 (aw := 0) (by omega)
    have b61' : y.2 61 i = nI (B i) := by rw [y3.2 61 (by omega)]; exact b61
    obtain ⟨y', hy1, hy2, hy3⟩ : ∃ y', (∀ J : St → Option (Int32 × St), (if nI (B i) = nI j then vl (stf y 24 (nI hb)) (fun (u8 : St) => vl (stf u8 25 (nI sl)) (fun (u9 : St) => J u9)) else J y) = J y') ∧ TP (jP P j hb sl) (stg P 0 (P 46)) (A i) (B i) y' ∧ eqT y y' := by
      obtain ⟨t1, t2, t3, t4, t5, t6⟩ := y2
      have lo : ∀ k, k < 40 → jP P j hb sl k = P k := fun k hk => by
        unfold jP
        rw [pu_n _ (by omega), pu_n _ (by omega)]
      by_cases q : B i = j
      · refine ⟨stf (stf y 24 (nI hb)) 25 (nI sl), fun J => by rw [if_pos (by rw [q]), vl_e, vl_e], ⟨?_, ?_, ?_, t4, ?_, ?_⟩, fun k hk => by rw [stf_1, if_neg (by omega), stf_1, if_neg (by omega)], fun k hk => rfl⟩
        · rw [lo _ (by omega), lo _ (by omega)]; exact t1
        · rw [lo _ (by omega), lo _ (by omega)]; exact t2
        · rw [lo _ (by omega), lo _ (by omega)]; exact t3
        · rw [stf_1, if_neg (by omega), stf_1, if_pos rfl, q]
          unfold jP
          rw [pu_n _ (by omega), pu_s]
        · rw [stf_1, if_pos rfl, q]
          unfold jP
          rw [pu_s]
      · refine ⟨y, fun J => by rw [if_neg (neI q (by omega) (by omega))], ⟨?_, ?_, ?_, t4, ?_, ?_⟩, eqT.rf⟩
        · rw [lo _ (by omega), lo _ (by omega)]; exact t1
        · rw [lo _ (by omega), lo _ (by omega)]; exact t2
        · rw [lo _ (by omega), lo _ (by omega)]; exact t3
        · unfold jP
          rw [pu_n _ (by omega), pu_n _ (by omega)]
          exact t5
        · unfold jP
          rw [pu_n _ (by omega), pu_n _ (by omega)]
          exact t6
    have hQ := jP_ok hPg hc4 hj3 hjj h1 h2 h3
    obtain ⟨z, z1, -, z3⟩ := X_heldP F (by omega) y' hQ a1 a2 (fun m => stg_lt hPg 0 m) hy2
    have hbd := hP_bd hQ (stg P 0 (P 46)) a1 a2
    have ez := ((hw.tr y3).tr hy3).tr z3
    have b62 : z.2 62 i = nI (D i) := by rw [ez.2 62 (by omega)]; exact a7
    have hrun : bX1_fits_3 F (nI j) (nI hb) (nI sl) g (nI i) w = if (hP (jP P j hb sl) (stg P 0 (P 46)) (A i) (B i)).1 = D i then g (nI (i + 1)) z else some (0, z) := by
      have y1' : pX5_prepare F (nI (A i)) (nI (B i)) 0 w = some ((), y) := y1
      unfold bX1_fits_3
      rw [e, if_neg (nle hi (by omega)), gd_i (by omega) (by omega), gd_i (by omega) (by omega), cl (by omega), b60, b61, y1', bd_s, gd_i (by omega) (by omega), b61', jn_e, hy1, z1, bd_s, gd_i (by omega) (by omega), b62, ifeq (by omega) (by omega), nI_s]
    by_cases q : (hP (jP P j hb sl) (stg P 0 (P 46)) (A i) (B i)).1 = D i
    · refine Or.inr ⟨z, by rw [hrun, if_pos q], ez, fun o hoi => ?_⟩
      by_cases t : o = i
      · rw [t]; exact decide_eq_true q
      · exact ho o (by omega)
    · refine Or.inl ⟨z, ?_, ez⟩
      rw [hrun, if_neg q, if_neg (show ¬ fit (jP P j hb sl) (stg P 0 (P 46)) A B D n = true from fun t => by
        unfold fit at t
        rw [al_f hi (decide_eq_false q)] at t
        exact absurd t (by decide))]
theorem M_seen (F : Nat) (hF : 80 ≤ F) {c jn n : Nat} {P A B D : Nat → Nat} (v : St) (hc4 : c ≤ 4) (hj3 : jn ≤ 3) (hPg : PgOK c jn P) (hM : PgM 0 P v) (hE : MEnv 0 0 0 v) (hn : n ≤ 6) (hn' : v.1 21 = nI n) (hm : ∀ i, i < n → A i < c ∧ B i < jn ∧ 1 ≤ D i ∧ D i ≤ 3 ∧ v.2 7 (3 * i) = nI (A i) ∧ v.2 7 (3 * i + 1) = nI (B i) ∧ v.2 7 (3 * i + 2) = nI (D i)) : ∃ v', pX7_isAsSeen F v = some (if fit P (stg P 0 (P 46)) A B D n = true then 1 else 0, v') ∧ eqR v v' := by
  unfold pX7_isAsSeen
  refine lq2_up (n := n) (I := fun i r w => eqR v w ∧ r = if fit P (stg P 0 (P 46)) A B D i = true then 1 else 0) (Q := fun o => ∃ v' : St, o = some (if fit P (stg P 0 (P 46)) A B D n = true then 1 else 0, v') ∧ eqR v v') ?_ ?_ n 0 F 1 v (by omega) (by omega) ⟨eqR.rf, rfl⟩
  · rintro g r w ⟨hw, rfl⟩
    refine ⟨w, ?_, hw⟩
    have e : w.1 21 = nI n := (hw.1 21 (by omega)).trans hn'
    unfold bX7_isAsSeen_4
    rw [e, if_pos (yle (Nat.le_refl _) (by omega))]
    cases fit P (stg P 0 (P 46)) A B D n
    · rfl
    · rfl
  · rintro g i r w hi ⟨hw, rfl⟩
    have e : w.1 21 = nI n := (hw.1 21 (by omega)).trans hn'
    obtain ⟨a1, a2, a3, a4, a5, a6, a7⟩ := hm i hi
    have es : fit P (stg P 0 (P 46)) A B D (i + 1) = (fit P (stg P 0 (P 46)) A B D i && decide ((hP P (stg P 0 (P 46)) (A i) (B i)).1 = D i)) := rfl
    rcases hq : fit P (stg P 0 (P 46)) A B D i with _ | _
    · refine Or.inr ⟨0, w, ?_, hw, by rw [es, hq, Bool.false_and, if_neg (by decide)]⟩
      unfold bX7_isAsSeen_4
      rw [e, if_neg (nle hi (by omega)), nI_s]
      simp only [jn_e, Bool.false_eq_true, if_true, if_false]
    · obtain ⟨t, t1, t2⟩ := M_tries0 F hF w hc4 hj3 hPg (hw.pg hM) (hw.env hE) a1 a2
      have hbd := hP_bd hPg (stg P 0 (P 46)) a1 a2
      have b0 : w.2 7 (3 * i) = nI (A i) := by rw [hw.2.1 7 (by omega)]; exact a5
      have b1 : w.2 7 (3 * i + 1) = nI (B i) := by rw [hw.2.1 7 (by omega)]; exact a6
      have b2 : t.2 7 (3 * i + 2) = nI (D i) := by rw [t2.2.1 7 (by omega), hw.2.1 7 (by omega)]; exact a7
      refine Or.inr ⟨if (hP P (stg P 0 (P 46)) (A i) (B i)).1 = D i then 1 else 0, t, ?_, hw.tr t2, ?_⟩
      · unfold bX7_isAsSeen_4
        rw [e, if_neg (nle hi (by omega)), nI_s, if_pos rfl]
        simp only [jn_e, i10, tm3, nI_s, ta2]
        rw [gd_i (by omega) (by omega), gd_i (by omega) (by omega), cl (n := 3 * i) (by omega), cl (n := 3 * i + 1) (by omega), b0, b1, t1, bd_s, gd_i (by omega) (by omega), cl (by omega), b2, ifeq (by omega) (by omega)]
        by_cases q : (hP P (stg P 0 (P 46)) (A i) (B i)).1 = D i
        · rw [if_pos q, if_pos q]
        · rw [if_neg q, if_neg q]
      · rw [es, hq, Bool.true_and]
        by_cases q : (hP P (stg P 0 (P 46)) (A i) (B i)).1 = D i
        · rw [if_pos q, if_pos (decide_eq_true q)]
        · rw [if_neg q, if_neg (by rw [decide_eq_false q]; decide)]
/-- the habits that fit -/
def hbq (P A B D : Nat → Nat) (n j hb : Nat) : Bool := fit (pu P (40 + j) hb) (stg P 0 (P 46)) A B D n
def slq (P A B D : Nat → Nat) (n j sl : Nat) : Bool := fit (pu P (43 + j) sl) (stg P 0 (P 46)) A B D n
theorem X_habits (F : Nat) (hF : 80 ≤ F) {c jn j n : Nat} {P A B D : Nat → Nat} (u : St) (hc4 : c ≤ 4) (hj3 : jn ≤ 3) (hPg : PgOK c jn P) (hX : CtX 0 c jn P u) (hjj : j < jn) (hn : n ≤ 6) (hn' : u.1 29 = nI n) (hm : ∀ i, i < n → A i < c ∧ B i < jn ∧ 1 ≤ D i ∧ D i ≤ 3 ∧ u.2 60 i = nI (A i) ∧ u.2 61 i = nI (B i) ∧ u.2 62 i = nI (D i)) : ∃ u', pX6_habitsAsSeen F (nI j) u = some (bI (hbq P A B D n j) 4, u') ∧ eqT u u' := by
  unfold pX6_habitsAsSeen
  refine lq2_up (n := 4) (I := fun i x w => x = bI (hbq P A B D n j) i ∧ eqT u w) (Q := fun o => ∃ u' : St, o = some (bI (hbq P A B D n j) 4, u') ∧ eqT u u') ?_ ?_ 4 0 F 0 u (by omega) (by omega) ⟨rfl, eqT.rf⟩
  · rintro g x w ⟨rfl, hw⟩
    refine ⟨w, ?_, hw⟩
    unfold bX6_habitsAsSeen_4
    rw [if_pos (show (4 : Int32) ≤ nI 4 by decide)]
  · rintro g i x w hi ⟨rfl, hw⟩
    have hX' := hX.eq (by omega) hw.x
    obtain ⟨p1, p2, p3⟩ := hPg.2.2.2.2.1 j hjj
    have e8 : w.2 8 j = nI (P (43 + j)) := (hX'.2.2.2.2.2.2.1 j hjj).2
    obtain ⟨y, y1, y2⟩ := X_fits F hF (hb := i) (sl := P (43 + j)) w hc4 hj3 hPg hX' hjj (by omega) p2 p3 hn ((hw.1 29 (by omega)).trans hn') (fun o ho => by
      obtain ⟨a1, a2, a3, a4, a5, a6, a7⟩ := hm o ho
      exact ⟨a1, a2, a3, a4, by rw [hw.2 60 (by omega)]; exact a5, by rw [hw.2 61 (by omega)]; exact a6, by rw [hw.2 62 (by omega)]; exact a7⟩)
    rw [jP_h P j i (by omega)] at y1
    refine Or.inr ⟨bI (hbq P A B D n j) (i + 1), y, ?_, rfl, hw.tr y2⟩
    unfold bX6_habitsAsSeen_4
    rw [if_neg (show ¬ (4 : Int32) ≤ nI i from by rw [L4]; exact nle hi (by omega)), gd_i (by omega) (by omega), cl (by omega), e8, y1, bd_s]
    simp only [jn_e, vl_e, nI_s]
    rw [bI]
    by_cases q : hbq P A B D n j i = true
    · rw [if_pos q, if_pos (show fit (pu P (40 + j) i) (stg P 0 (P 46)) A B D n = true from q), if_neg (show ¬ (1 : Int32) = 0 by decide)]
    · rw [if_neg q, if_neg (show ¬ fit (pu P (40 + j) i) (stg P 0 (P 46)) A B D n = true from q), if_pos rfl]
theorem X_slows (F : Nat) (hF : 80 ≤ F) {c jn j n : Nat} {P A B D : Nat → Nat} (u : St) (hc4 : c ≤ 4) (hj3 : jn ≤ 3) (hPg : PgOK c jn P) (hX : CtX 0 c jn P u) (hjj : j < jn) (hn : n ≤ 6) (hn' : u.1 29 = nI n) (hm : ∀ i, i < n → A i < c ∧ B i < jn ∧ 1 ≤ D i ∧ D i ≤ 3 ∧ u.2 60 i = nI (A i) ∧ u.2 61 i = nI (B i) ∧ u.2 62 i = nI (D i)) : ∃ u', lq2 (bX6_slows_17 F (nI j)) F 0 1 u = some (bI (fun k => decide (1 ≤ k) && slq P A B D n j k) 10, u') ∧ eqT u u' := by
  have or0 : ∀ x : Int32, x ||| 0 = x := fun x => by
    apply Int32.toBitVec_inj.mp
    rw [Int32.toBitVec_or]
    simp
  refine lq2_up (n := 10) (I := fun i x w => 1 ≤ i ∧ x = bI (fun k => decide (1 ≤ k) && slq P A B D n j k) i ∧ eqT u w) (Q := fun o => ∃ u' : St, o = some (bI (fun k => decide (1 ≤ k) && slq P A B D n j k) 10, u') ∧ eqT u u') ?_ ?_ 9 1 F 0 u (by omega) (by omega) ⟨Nat.le_refl _, by rw [bI, if_neg (by simp)]; show (0 : Int32) = 0 ||| 0; decide, eqT.rf⟩
  · rintro g x w ⟨-, rfl, hw⟩
    refine ⟨w, ?_, hw⟩
    unfold bX6_slows_17
    rw [if_pos (show (9 : Int32) < nI 10 by decide)]
  · rintro g i x w hi ⟨h1, rfl, hw⟩
    have hX' := hX.eq (by omega) hw.x
    obtain ⟨p1, p2, p3⟩ := hPg.2.2.2.2.1 j hjj
    have e7 : w.2 7 j = nI (P (40 + j)) := (hX'.2.2.2.2.2.2.1 j hjj).1
    obtain ⟨y, y1, y2⟩ := X_fits F hF (hb := P (40 + j)) (sl := i) w hc4 hj3 hPg hX' hjj p1 h1 (by omega) hn ((hw.1 29 (by omega)).trans hn') (fun o ho => by
      obtain ⟨a1, a2, a3, a4, a5, a6, a7⟩ := hm o ho
      exact ⟨a1, a2, a3, a4, by rw [hw.2 60 (by omega)]; exact a5, by rw [hw.2 61 (by omega)]; exact a6, by rw [hw.2 62 (by omega)]; exact a7⟩)
    rw [jP_s P j i] at y1
    refine Or.inr ⟨bI (fun k => decide (1 ≤ k) && slq P A B D n j k) (i + 1), y, ?_, by omega, rfl, hw.tr y2⟩
    unfold bX6_slows_17
    rw [if_neg (show ¬ (9 : Int32) < nI i from by rw [L9]; exact nlt (by omega) (by omega)), gd_i (by omega) (by omega), cl (by omega), e7, y1, bd_s]
    simp only [jn_e, vl_e, nI_s]
    rw [bI]
    by_cases q : slq P A B D n j i = true
    · rw [if_pos (show (decide (1 ≤ i) && slq P A B D n j i) = true from by rw [q, decide_eq_true h1]; rfl), if_pos (show fit (pu P (43 + j) i) (stg P 0 (P 46)) A B D n = true from q), if_neg (show ¬ (1 : Int32) = 0 by decide)]
    · rw [if_neg (show ¬ (decide (1 ≤ i) && slq P A B D n j i) = true from by rw [Bool.eq_false_iff.mpr q, Bool.and_false]; decide), if_neg (show ¬ fit (pu P (43 + j) i) (stg P 0 (P 46)) A B D n = true from q), if_pos rfl, or0]
/-- one number of the page stands aside -/
def eqH (z : Nat) (v v' : St) : Prop := (∀ k, k ≠ 18 → v'.1 k = v.1 k) ∧ (∀ k, k ≠ 0 → k ≠ 8 → v'.2 k = v.2 k) ∧ ∀ i, i ≠ z → (i < 272 ∨ 408 ≤ i) → v'.2 0 i = v.2 0 i
theorem eqH.r {z : Nat} {u w x : St} (h : eqH z u w) (h2 : eqR w x) : eqH z u x := ⟨fun k q => (h2.1 k q).trans (h.1 k q), fun k q q' => (h2.2.1 k q).trans (h.2.1 k q q'), fun k q q' => (h2.2.2 k q').trans (h.2.2 k q q')⟩
theorem eqH.env {z : Nat} {v v' : St} (h : eqH z v v') (hE : MEnv 0 0 0 v) : MEnv 0 0 0 v' := by
  obtain ⟨e1, e2, e3, e4, e5, e6, e7⟩ := hE
  exact ⟨e1, (h.1 15 (by omega)).trans e2, Or.inl rfl, (h.1 17 (by omega)).trans e4, e5, e6, (h.2.1 1 (by omega) (by omega)).trans e7⟩
theorem eqH.st {z : Nat} {v w : St} (h : eqH z v w) (hz : z < 68) (x : Int32) : eqH z v (sta w 0 (nI z) x) := ⟨h.1, fun k q q' => by rw [sta_m _ _ _ q]; exact h.2.1 k q q', fun i q q' => by rw [sta_h _ _ (by omega), if_neg q]; exact h.2.2 i q q'⟩
theorem eqH.pg {z x : Nat} {v w : St} {P : Nat → Nat} (h : eqH z v w) (hz : z < 68) (hM : PgM 0 P v) : PgM 0 (pu P z x) (sta w 0 (nI z) (nI x)) := fun k hk => by
  rw [sta_h _ _ (by omega)]
  unfold pu
  by_cases q : k = z
  · rw [if_pos (by omega), if_pos q]
  · rw [if_neg (by omega), if_neg q, h.2.2 _ (by omega) (by omega)]
    exact hM k hk
theorem eqH.end {z : Nat} {v w : St} (h : eqH z v w) (hz : z < 68) : eqM v (sta w 0 (nI z) (v.2 0 z)) := by
  refine ⟨fun i hi => ?_, ⟨h.1 _ (by omega), h.1 _ (by omega), h.1 _ (by omega), h.1 _ (by omega), h.1 _ (by omega), h.1 _ (by omega), h.1 _ (by omega), h.1 _ (by omega)⟩, fun k hk => by rw [sta_m _ _ _ (by omega)]; exact h.2.1 k (by omega) (by omega)⟩
  rw [sta_h _ _ (by omega)]
  by_cases q : i = z
  · rw [if_pos q, q]
  · rw [if_neg q]
    exact h.2.2 i q (by omega)
theorem M_habits (F : Nat) (hF : 80 ≤ F) {c jn j n : Nat} {P A B D : Nat → Nat} (v : St) (hc4 : c ≤ 4) (hj3 : jn ≤ 3) (hPg : PgOK c jn P) (hM : PgM 0 P v) (hE : MEnv 0 0 0 v) (h0 : v.1 0 = nI c) (hjj : j < jn) (hn : n ≤ 6) (hn' : v.1 21 = nI n) (hm : ∀ i, i < n → A i < c ∧ B i < jn ∧ 1 ≤ D i ∧ D i ≤ 3 ∧ v.2 7 (3 * i) = nI (A i) ∧ v.2 7 (3 * i + 1) = nI (B i) ∧ v.2 7 (3 * i + 2) = nI (D i)) : ∃ v', pX7_habitsOf F (nI j) v = some (bI (hbq P A B D n j) 4, v') ∧ (∀ hb, hb < 4 → ∀ cc, cc < c → v'.2 8 (4 * hb + cc) = nI (hP (pu P (40 + j) hb) (stg P 0 (P 46)) cc j).1) ∧ eqM v v' := by
  unfold pX7_habitsOf
  rw [at40, gd_i (by omega) (by omega), vl_e, jn_e, cl (by omega)]
  refine lq2_up (n := 4) (I := fun i x w => x = bI (hbq P A B D n j) i ∧ (∀ hb, hb < i → ∀ cc, cc < c → w.2 8 (4 * hb + cc) = nI (hP (pu P (40 + j) hb) (stg P 0 (P 46)) cc j).1) ∧ eqH (40 + j) v w) (Q := fun o => ∃ v' : St, o = some (bI (hbq P A B D n j) 4, v') ∧ (∀ hb, hb < 4 → ∀ cc, cc < c → v'.2 8 (4 * hb + cc) = nI (hP (pu P (40 + j) hb) (stg P 0 (P 46)) cc j).1) ∧ eqM v v') ?_ ?_ 4 0 F 0 v (by omega) (by omega) ⟨rfl, fun hb h => by omega, fun _ _ => rfl, fun _ _ _ => rfl, fun _ _ _ => rfl⟩
  · rintro g x w ⟨rfl, ht, hw⟩
    refine ⟨sta w 0 (nI (40 + j)) (v.2 0 (40 + j)), ?_, fun hb h cc hcc => by rw [sta_m _ _ _ (by omega)]; exact ht hb h cc hcc, hw.end (by omega)⟩
    unfold bX7_habitsOf_15
    rw [if_pos (show (4 : Int32) ≤ nI 4 by decide)]
    unfold jX7_habitsOf_94
    rw [at40, gd_i (by omega) (by omega), vl_e]
  · rintro g i x w hi ⟨rfl, ht, hw⟩
    have hk : PgOK c jn (pu P (40 + j) i) := hPg.put hc4 hj3 (by omega) (by omega) (by omega) (by omega) (by omega) (by omega) (by omega) (by omega) (by omega)
    have hS : stg (pu P (40 + j) i) 0 (pu P (40 + j) i 46) = stg P 0 (P 46) := stg_pu46 P (by omega) 0
    have w1 := hw.st (show 40 + j < 68 by omega) (nI i)
    have m1 : PgM 0 (pu P (40 + j) i) (sta w 0 (nI (40 + j)) (nI i)) := hw.pg (by omega) hM
    obtain ⟨y, y1, y2⟩ := M_seen F hF (A := A) (B := B) (D := D) _ hc4 hj3 hk m1 (w1.env hE) hn ((w1.1 21 (by omega)).trans hn') (fun o ho => by
      obtain ⟨a1, a2, a3, a4, a5, a6, a7⟩ := hm o ho
      rw [w1.2.1 7 (by omega) (by omega)]
      exact ⟨a1, a2, a3, a4, a5, a6, a7⟩)
    rw [hS] at y1
    have w2 := w1.r y2
    have my := y2.pg m1
    have inner : ∀ J : St → Option (Int32 × St), ∃ t, lq1 (bX7_habitsOf_53 F (nI j) (nI i) J) F 0 y = J t ∧ (∀ cc, cc < c → t.2 8 (4 * i + cc) = nI (hP (pu P (40 + j) i) (stg P 0 (P 46)) cc j).1) ∧ (∀ k, (k < 4 * i ∨ 4 * i + 4 ≤ k) → t.2 8 k = y.2 8 k) ∧ eqH (40 + j) v t := fun J => by
      refine lq1_up (n := c) (I := fun o t => (∀ cc, cc < o → t.2 8 (4 * i + cc) = nI (hP (pu P (40 + j) i) (stg P 0 (P 46)) cc j).1) ∧ (∀ k, (k < 4 * i ∨ 4 * i + 4 ≤ k) → t.2 8 k = y.2 8 k) ∧ eqH (40 + j) v t ∧ PgM 0 (pu P (40 + j) i) t) (Q := fun o => ∃ t : St, o = J t ∧ (∀ cc, cc < c → t.2 8 (4 * i + cc) = nI (hP (pu P (40 + j) i) (stg P 0 (P 46)) cc j).1) ∧ (∀ k, (k < 4 * i ∨ 4 * i + 4 ≤ k) → t.2 8 k = y.2 8 k) ∧ eqH (40 + j) v t) ?_ ?_ c 0 F y (by omega) (by omega) ⟨fun cc h => by omega, fun _ _ => rfl, w2, my⟩
      · rintro g' t ⟨t1, t2, t3, t4⟩
        refine ⟨t, ?_, t1, t2, t3⟩
        have e0 : t.1 0 = nI c := (t3.1 0 (by omega)).trans h0
        unfold bX7_habitsOf_53
        rw [e0, if_pos (yle (Nat.le_refl _) (by omega))]
      · rintro g' o t ho ⟨t1, t2, t3, t4⟩
        have e0 : t.1 0 = nI c := (t3.1 0 (by omega)).trans h0
        obtain ⟨r, r1, r2⟩ := M_tries0 F hF (cc := o) t hc4 hj3 hk t4 (t3.env hE) ho hjj
        rw [hS] at r1
        have q3 := t3.r r2
        refine Or.inr ⟨sta r 8 (nI (4 * i + o)) (nI (hP (pu P (40 + j) i) (stg P 0 (P 46)) o j).1), ?_, fun cc hcc => ?_, fun k hk' => ?_, ⟨q3.1, fun k a b => by rw [sta_m _ _ _ b]; exact q3.2.1 k a b, fun k a b => by rw [sta_m _ _ _ (by omega)]; exact q3.2.2 k a b⟩, fun k hk' => by rw [sta_m _ _ _ (by omega)]; exact (r2.pg t4) k hk'⟩
        · unfold bX7_habitsOf_53
          rw [e0, if_neg (nle ho (by omega)), r1, bd_s, tm4, nI_add, nI_s, gd_i (by omega) (by omega), vl_e]
        · rw [sta_h _ _ (by omega)]
          by_cases q : cc = o
          · rw [if_pos (by omega), q]
          · rw [if_neg (by omega), r2.2.1 8 (by omega)]
            exact t1 cc (by omega)
        · rw [sta_h _ _ (by omega), if_neg (by omega), r2.2.1 8 (by omega)]
          exact t2 k hk'
    obtain ⟨t, t1, t2, t3, t4⟩ := inner (jX7_habitsOf_88 F (nI i) g (bI (hbq P A B D n j) (i + 1)))
    refine Or.inr ⟨bI (hbq P A B D n j) (i + 1), t, ?_, rfl, fun hb h cc hcc => ?_, t4⟩
    · unfold bX7_habitsOf_15
      rw [if_neg (show ¬ (4 : Int32) ≤ nI i from by rw [L4]; exact nle hi (by omega)), at40, gd_i (by omega) (by omega), vl_e, y1, bd_s]
      simp only [jn_e, vl_e]
      rw [bI] at t1
      by_cases q : hbq P A B D n j i = true
      · rw [if_pos q] at t1
        rw [if_pos (show fit (pu P (40 + j) i) (stg P 0 (P 46)) A B D n = true from q), if_neg (show ¬ (1 : Int32) = 0 by decide), t1]
        unfold jX7_habitsOf_88
        rw [nI_s, bI, if_pos q]
      · rw [if_neg q] at t1
        rw [if_neg (show ¬ fit (pu P (40 + j) i) (stg P 0 (P 46)) A B D n = true from q), if_pos rfl, t1]
        unfold jX7_habitsOf_88
        rw [nI_s, bI, if_neg q]
    · by_cases q : hb = i
      · rw [q]; exact t2 cc hcc
      · rw [t3 _ (by omega), y2.2.1 8 (by omega), sta_m _ _ _ (by omega)]
        exact ht hb (by omega) cc hcc
theorem M_slows (F : Nat) (hF : 80 ≤ F) {c jn j n : Nat} {P A B D : Nat → Nat} (v : St) (hc4 : c ≤ 4) (hj3 : jn ≤ 3) (hPg : PgOK c jn P) (hM : PgM 0 P v) (hE : MEnv 0 0 0 v) (hjj : j < jn) (hn : n ≤ 6) (hn' : v.1 21 = nI n) (hm : ∀ i, i < n → A i < c ∧ B i < jn ∧ 1 ≤ D i ∧ D i ≤ 3 ∧ v.2 7 (3 * i) = nI (A i) ∧ v.2 7 (3 * i + 1) = nI (B i) ∧ v.2 7 (3 * i + 2) = nI (D i)) : ∃ v', lq2 (bX7_slows_25 F (nI j) (jX7_slows_67 F (nI j) (v.2 0 (43 + j)))) F 0 1 v = some (bI (fun k => decide (1 ≤ k) && slq P A B D n j k) 10, v') ∧ eqM v v' := by
  refine lq2_up (n := 10) (I := fun i x w => 1 ≤ i ∧ x = bI (fun k => decide (1 ≤ k) && slq P A B D n j k) i ∧ eqH (43 + j) v w) (Q := fun o => ∃ v' : St, o = some (bI (fun k => decide (1 ≤ k) && slq P A B D n j k) 10, v') ∧ eqM v v') ?_ ?_ 9 1 F 0 v (by omega) (by omega) ⟨Nat.le_refl _, by rw [bI, if_neg (by simp)]; show (0 : Int32) = 0 ||| 0; decide, fun _ _ => rfl, fun _ _ _ => rfl, fun _ _ _ => rfl⟩
  · rintro g x w ⟨-, rfl, hw⟩
    refine ⟨sta w 0 (nI (43 + j)) (v.2 0 (43 + j)), ?_, hw.end (by omega)⟩
    unfold bX7_slows_25
    rw [if_pos (show (9 : Int32) < nI 10 by decide)]
    unfold jX7_slows_67
    rw [at43, gd_i (by omega) (by omega), vl_e]
  · rintro g i x w hi ⟨h1, rfl, hw⟩
    have hk : PgOK c jn (pu P (43 + j) i) := hPg.put hc4 hj3 (by omega) (by omega) (by omega) (by omega) (by omega) (by omega) (by omega) (by omega) (by omega)
    have hS : stg (pu P (43 + j) i) 0 (pu P (43 + j) i 46) = stg P 0 (P 46) := stg_pu46 P (by omega) 0
    have w1 := hw.st (show 43 + j < 68 by omega) (nI i)
    have m1 : PgM 0 (pu P (43 + j) i) (sta w 0 (nI (43 + j)) (nI i)) := hw.pg (by omega) hM
    obtain ⟨y, y1, y2⟩ := M_seen F hF (A := A) (B := B) (D := D) _ hc4 hj3 hk m1 (w1.env hE) hn ((w1.1 21 (by omega)).trans hn') (fun o ho => by
      obtain ⟨a1, a2, a3, a4, a5, a6, a7⟩ := hm o ho
      rw [w1.2.1 7 (by omega) (by omega)]
      exact ⟨a1, a2, a3, a4, a5, a6, a7⟩)
    rw [hS] at y1
    refine Or.inr ⟨bI (fun k => decide (1 ≤ k) && slq P A B D n j k) (i + 1), y, ?_, by omega, rfl, w1.r y2⟩
    unfold bX7_slows_25
    rw [if_neg (show ¬ (9 : Int32) < nI i from by rw [L9]; exact nlt (by omega) (by omega)), at43, gd_i (by omega) (by omega), vl_e, y1, bd_s]
    simp only [jn_e, vl_e, nI_s]
    rw [bI]
    by_cases q : slq P A B D n j i = true
    · rw [if_pos (show (decide (1 ≤ i) && slq P A B D n j i) = true from by rw [q, decide_eq_true h1]; rfl), if_pos (show fit (pu P (43 + j) i) (stg P 0 (P 46)) A B D n = true from q), if_neg (show ¬ (1 : Int32) = 0 by decide)]
    · rw [if_neg (show ¬ (decide (1 ≤ i) && slq P A B D n j i) = true from by rw [Bool.eq_false_iff.mpr q, Bool.and_false]; decide), if_neg (show ¬ fit (pu P (43 + j) i) (stg P 0 (P 46)) A B D n = true from q), if_pos rfl]
theorem st_habits (F : Nat) (hLF : 200 ≤ F) {u v : St} (h : RR u v) (x0 : Int32) : ∃ (r : Int32) (u' v' : St), pX6_habits F x0 u = some (r, u') ∧ pX7_habits F x0 v = some (r, v') ∧ RR u' v' := by
  obtain ⟨c, jn, P, ⟨c1, c2, c3, hX, c5, c6, c7⟩, i0, i1, hs, ht, hw, htn, hsh, hc⟩ := id h
  obtain ⟨n, A, B, D, n1, n2, n3, n4⟩ := hs.fn c1 c2
  unfold pX6_habits pX7_habits
  rcases two_judge x0 c2 hX.2.1 c6 with ⟨b, b1, rfl, k, k'⟩ | ⟨k, k'⟩
  · obtain ⟨u', g1, g2⟩ := X_habits F (by omega) (A := A) (B := B) (D := D) u c1 c2 c3 hX b1 n1 n2 (fun i hi => by
      obtain ⟨a1, a2, a3, a4, a5, a6, a7, -⟩ := n4 i hi
      exact ⟨a1, a2, a3, a4, a5, a6, a7⟩)
    obtain ⟨v', m1, -, m2⟩ := M_habits F (by omega) (A := A) (B := B) (D := D) v c1 c2 c3 c7 (menv0 hc) c5 b1 n1 n3 (fun i hi => by
      obtain ⟨a1, a2, a3, a4, -, -, -, a5, a6, a7⟩ := n4 i hi
      exact ⟨a1, a2, a3, a4, a5, a6, a7⟩)
    rw [k, k', bd_s, bd_s, i10, i10, g1, m1, bd_s, bd_s]
    exact ⟨_, _, _, rfl, rfl, h.eq g2.x m2⟩
  · rw [k, k', bd_s, bd_s, i00, i00]
    exact ⟨_, _, _, rfl, rfl, h⟩
theorem step_habits {u v : St} (h : RR u v) (x0 : Int32) : ∃ (r : Int32) (u' v' : St), pX6_habits LF x0 u = some (r, u') ∧ pX7_habits LF x0 v = some (r, v') ∧ RR u' v' := st_habits LF (by decide) h x0
theorem st_slows (F : Nat) (hLF : 200 ≤ F) {u v : St} (h : RR u v) (x0 : Int32) : ∃ (r : Int32) (u' v' : St), pX6_slows F x0 u = some (r, u') ∧ pX7_slows F x0 v = some (r, v') ∧ RR u' v' := by
  obtain ⟨c, jn, P, ⟨c1, c2, c3, hX, c5, c6, c7⟩, i0, i1, hs, ht, hw, htn, hsh, hc⟩ := id h
  obtain ⟨n, A, B, D, n1, n2, n3, n4⟩ := hs.fn c1 c2
  unfold pX6_slows pX7_slows
  rcases two_judge x0 c2 hX.2.1 c6 with ⟨b, b1, rfl, k, k'⟩ | ⟨k, k'⟩
  · obtain ⟨u', g1, g2⟩ := X_slows F (by omega) (A := A) (B := B) (D := D) u c1 c2 c3 hX b1 n1 n2 (fun i hi => by
      obtain ⟨a1, a2, a3, a4, a5, a6, a7, -⟩ := n4 i hi
      exact ⟨a1, a2, a3, a4, a5, a6, a7⟩)
    obtain ⟨v', m1, m2⟩ := M_slows F (by omega) (A := A) (B := B) (D := D) v c1 c2 c3 c7 (menv0 hc) b1 n1 n3 (fun i hi => by
      obtain ⟨a1, a2, a3, a4, -, -, -, a5, a6, a7⟩ := n4 i hi
      exact ⟨a1, a2, a3, a4, a5, a6, a7⟩)
    rw [k, k', bd_s, bd_s, i10, i10, at43, gd_i (by omega) (by omega), vl_e, jn_e, cl (by omega), g1, m1]
    exact ⟨_, _, _, rfl, rfl, h.eq g2.x m2⟩
  · rw [k, k', bd_s, bd_s, i00, i00]
    exact ⟨_, _, _, rfl, rfl, h⟩
theorem step_slows {u v : St} (h : RR u v) (x0 : Int32) : ∃ (r : Int32) (u' v' : St), pX6_slows LF x0 u = some (r, u') ∧ pX7_slows LF x0 v = some (r, v') ∧ RR u' v' := st_slows LF (by decide) h x0
