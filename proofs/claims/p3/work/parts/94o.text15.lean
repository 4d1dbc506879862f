/-! PURE: text: the whole of it -/
theorem text_good (F : Nat) (hF : 200 ≤ F) {b : Nat → Nat} {n k : Nat} {R : Nat → Nat} {rc rj dt h5 h6 p e vu : Nat} {u v u' v' : St} (h : RR u v) (hT : TR b n R rc rj dt h5 h6 u' v') (hK : Tok b n 0 p e vu u' v') (fX : FrX u u') (fM : FrM v v') : TQ (jX6_text_45 F (nI k) 1 u') (jX7_text_86 F (nI k) v') := by
  have hT' := hT
  have hK' := hK
  obtain ⟨t1, t2, ⟨q1, q2, q3, q4⟩, t4, ⟨y1, y2, y3, y4, y5⟩, t6, ⟨t7, t8⟩, t9, t10, t11, t12, t13, t14⟩ := hT
  obtain ⟨k1, k2, k3, k4, k5, k20, k21, k22, k23, k13, k12, k11, k14, k9⟩ := hK
  have n1 := t1.1
  rw [X_end_e, i10, X_stands F hF u' t6 t4 q1 q2, M_end_e, k9, if_pos (show nI 0 = 0 from rfl), t10, t13, t14, t11]
  have a5 : (nI rc ≤ nI h5 - 1) ↔ rc < h5 := by
    rw [Int32.le_iff_toInt_le, subL (by omega), tI (by omega)]
    omega
  have a6 : (nI h6 - 1 < nI rj) ↔ h6 ≤ rj := by
    rw [Int32.lt_iff_toInt_lt, subL (by omega), tI (by omega)]
    omega
  have key : (∀ i, i < R 55 → R (56 + i) < rc ∧ R (62 + i) < rj) ↔ (¬ rc < h5 ∧ h6 ≤ rj) := by
    constructor
    · intro z
      constructor
      · rcases y4 with g | ⟨i, g1, g2⟩
        · omega
        · have := (z i g1).1
          omega
      · rcases y5 with g | ⟨i, g1, g2⟩
        · omega
        · have := (z i g1).2
          omega
    · intro z i hi
      have := y3 i hi
      omega
  have e9 : (stf (stf v' 9 6) 10 (nI p)).1 9 = nI 6 := by rw [sf_n _ _ _ (by omega), sf_k]; rfl
  have hb : Bad 6 p (stf u' 18 6) (stf (stf v' 9 6) 10 (nI p)) := ⟨by omega, by omega, by omega, Or.inl (by rw [sf_k]; rfl), by rw [sf_n _ _ _ (by omega)]; exact k21, e9, by rw [sf_k]⟩
  have hfail := text_fail F h hb (fX.sf (by omega) _) ((fM.sf (by omega) _).sf (by omega) _) (nI k) (nI k)
  by_cases z5 : rc < h5
  · rw [if_neg (fun z => (key.mp z).1 z5), bd_s, i00, if_pos (a5.mpr z5), M_fails F v' 6 k9 k12, bd_s]
    exact hfail
  · rw [if_neg (fun z => z5 (a5.mp z))]
    by_cases z6 : h6 ≤ rj
    · rw [if_pos (key.mpr ⟨z5, z6⟩), bd_s, i10, if_pos (a6.mpr z6)]
      exact text_win F hF h hT' hK' fX fM (key.mpr ⟨z5, z6⟩)
    · rw [if_neg (fun z => z6 (key.mp z).2), bd_s, i00, if_neg (fun z => z6 (a6.mp z)), M_fails F v' 6 k9 k12, bd_s]
      exact hfail
theorem text_bad (F : Nat) {k x q : Nat} {u v u' v' : St} (h : RR u v) (hb : Bad x q u' v') (fX : FrX u u') (fM : FrM v v') : TQ (jX6_text_45 F (nI k) 0 u') (jX7_text_86 F (nI k) v') := by
  have e : ¬ v'.1 9 = 0 := by
    rw [hb.2.2.2.2.2.1]
    exact n0f (by have := hb.1; omega) (by have := hb.2.1; omega)
  rw [X_end_e, i00, M_end_e, if_neg e]
  exact text_fail F h hb fX fM _ _
theorem st_text (F : Nat) (hF : 200 ≤ F) {u v : St} (h : RR u v) : TQ (pX6_text F u) (pX7_text F v) := by
  obtain ⟨c, jn, P, -, -, -, -, ⟨n, n1, n2, n3, n4⟩, -, -, -, hc⟩ := id h
  obtain ⟨b, hb⟩ : ∃ b : Nat → Nat, b = fun i => Int32.toNatClampNeg (u.2 54 i) := ⟨_, rfl⟩
  have hbb : ∀ i, i < n → b i ≤ 127 ∧ u.2 54 i = nI (b i) ∧ v.2 3 i = nI (b i) := fun i hi => by
    obtain ⟨x, x1, x2, x3⟩ := n4 i hi
    have : b i = x := by rw [hb]; show Int32.toNatClampNeg (u.2 54 i) = x; rw [x2, cl (by omega)]
    rw [this]
    exact ⟨x1, x2, x3⟩
  obtain ⟨u0, hu0⟩ : ∃ u0, u0 = stf (stf (stf (stf (stf (stf (stf u 12 0) 13 0) 14 0) 15 0) 19 0) 18 0) 22 0 := ⟨_, rfl⟩
  have eB : pX2_begins F u = bd (pX2_readsNext F u0) (fun (r6 : Int32) (u5 : St) => gd (z01 r6) (some (r6, u5))) := by
    unfold pX2_begins pX0_clear
    rw [vl_e, vl_e, vl_e, vl_e, bd_s, z01_0, gd_true, vl_e, vl_e, vl_e, hu0]
  obtain ⟨w0, hw0⟩ : ∃ w0, w0 = stf (stf (stf (stf (stf (stf (stf v 9 0) 11 0) 2 0) 3 0) 4 0) 5 (-1)) 6 (-1) := ⟨_, rfl⟩
  obtain ⟨v0, m1, m2, m3, m4⟩ := M_zero F hF (jX7_text_58 F) w0
  have eM : pX7_text F v = bd (pX7_step F v0) (fun (_ : Unit) (u9 : St) => lq1 (bX7_text_62 F (jX7_text_86 F)) F 0 u9) := by
    unfold pX7_text
    rw [vl_e, vl_e, vl_e, vl_e, z01_0, gd_true, vl_e, vl_e, vl_e, jn_e, ← hw0, m1]
    unfold jX7_text_58
    simp (implicitDefEqProofs := false) only [jn_e]
  have fX0 : FrX u u0 := by rw [hu0]; exact ((((((FrX.rf.sf (by omega) _).sf (by omega) _).sf (by omega) _).sf (by omega) _).sf (by omega) _).sf (by omega) _).sf (by omega) _
  have fW : FrM v w0 := by rw [hw0]; exact ((((((FrM.rf.sf (by omega) _).sf (by omega) _).sf (by omega) _).sf (by omega) _).sf (by omega) _).sf (by omega) _).sf (by omega) _
  have fM0 : FrM v v0 := ⟨fun k hk => by rw [m2]; exact fW.1 k hk, fun k hk => by rw [m3 k hk]; exact fW.2 k hk⟩
  have tX : TpX b n u := ⟨n1, n2, fun i hi => ⟨(hbb i hi).1, (hbb i hi).2.1⟩⟩
  have tM : TpM b n v := ⟨n1, n3, fun i hi => ⟨(hbb i hi).1, (hbb i hi).2.2⟩, hc.2.2.2.1, hc.2.2.2.2⟩
  have s18 : u0.1 18 = nI 0 := by rw [hu0, sf_n _ _ _ (by omega), sf_k]; rfl
  have s19 : u0.1 19 = nI 0 := by rw [hu0, sf_n _ _ _ (by omega), sf_n _ _ _ (by omega), sf_k]; rfl
  have s22 : u0.1 22 = nI 0 := by rw [hu0, sf_k]; rfl
  have s12 : u0.1 12 = nI 0 := by rw [hu0, sf_n _ _ _ (by omega), sf_n _ _ _ (by omega), sf_n _ _ _ (by omega), sf_n _ _ _ (by omega), sf_n _ _ _ (by omega), sf_n _ _ _ (by omega), sf_k]; rfl
  have s13 : u0.1 13 = nI 0 := by rw [hu0, sf_n _ _ _ (by omega), sf_n _ _ _ (by omega), sf_n _ _ _ (by omega), sf_n _ _ _ (by omega), sf_n _ _ _ (by omega), sf_k]; rfl
  have s14 : u0.1 14 = nI 0 := by rw [hu0, sf_n _ _ _ (by omega), sf_n _ _ _ (by omega), sf_n _ _ _ (by omega), sf_n _ _ _ (by omega), sf_k]; rfl
  have s15 : u0.1 15 = nI 0 := by rw [hu0, sf_n _ _ _ (by omega), sf_n _ _ _ (by omega), sf_n _ _ _ (by omega), sf_k]; rfl
  have r6 : v0.1 6 = nI 0 - 1 := by rw [m2, hw0, sf_k]; rfl
  have r5 : v0.1 5 = nI 0 - 1 := by rw [m2, hw0, sf_n _ _ _ (by omega), sf_k]; rfl
  have r4 : v0.1 4 = nI 0 := by rw [m2, hw0, sf_n _ _ _ (by omega), sf_n _ _ _ (by omega), sf_k]; rfl
  have r3 : v0.1 3 = nI 0 := by rw [m2, hw0, sf_n _ _ _ (by omega), sf_n _ _ _ (by omega), sf_n _ _ _ (by omega), sf_k]; rfl
  have r2 : v0.1 2 = nI 0 := by rw [m2, hw0, sf_n _ _ _ (by omega), sf_n _ _ _ (by omega), sf_n _ _ _ (by omega), sf_n _ _ _ (by omega), sf_k]; rfl
  have r11 : v0.1 11 = nI 0 := by rw [m2, hw0, sf_n _ _ _ (by omega), sf_n _ _ _ (by omega), sf_n _ _ _ (by omega), sf_n _ _ _ (by omega), sf_n _ _ _ (by omega), sf_k]; rfl
  have r9 : v0.1 9 = nI 0 := by rw [m2, hw0, sf_n _ _ _ (by omega), sf_n _ _ _ (by omega), sf_n _ _ _ (by omega), sf_n _ _ _ (by omega), sf_n _ _ _ (by omega), sf_n _ _ _ (by omega), sf_k]; rfl
  have hT0 : TR b n (fun _ => 0) 0 0 0 0 0 u0 v0 := by
    refine ⟨fX0.tp tX, fM0.tp tM, ⟨by omega, by omega, by omega, fun _ => rfl⟩, ⟨Nat.zero_le _, Nat.zero_le _, fun f hf => by omega, fun _ _ _ => rfl, fun j hj => by omega, fun i hi => absurd hi (Nat.not_lt_zero i), fun i hi => absurd hi (Nat.not_lt_zero i)⟩, ⟨by omega, by omega, fun i hi => absurd hi (Nat.not_lt_zero i), Or.inl rfl, Or.inl rfl⟩, ⟨s12, s13, s14, s15, fun f hf => by omega, fun f hf => by omega, fun f hf => by omega, fun i hi => absurd hi (Nat.not_lt_zero i), fun i hi => absurd hi (Nat.not_lt_zero i)⟩, ⟨s18, s19⟩, m4, r2, r3, r4, r5, r6⟩
  unfold pX6_text
  rw [eB, eM]
  obtain ⟨G, hG⟩ : ∃ G, F = G + 1 := ⟨F - 1, by omega⟩
  rcases next2 F hF u0 v0 hT0.1 hT0.2.1 (by omega) s22 r11 r9 with ⟨t, p, e, vu, u1, v1, g1, g2, g3, g4, g5, g6⟩ | ⟨q, u1, v1, g1, g2, g3, g5, g6⟩
  · rw [g1, bd_s, z01_1, gd_true, bd_s, jn_e, g2, bd_s]
    exact text_loop F hF TQ (jX6_text_45 F) (jX7_text_86 F) (fun k R rc rj dt h5 h6 p e vu u' v' a1 a2 a3 a4 => text_good F hF h a1 a2 a3 a4) (fun k x q u' v' a1 a2 a3 => text_bad F h a1 a2 a3) n 0 F F (fun _ => 0) 0 0 0 0 0 t p e vu u1 v1 (by omega) (by have := tX.1; omega) (by have := tX.1; omega) (by omega) (hT0.ft g5 g6) (fun f _ _ => rfl) g3 (fX0.tr g5.fr) (fM0.tr g6.fr)
  · rw [g1, bd_s, z01_0, gd_true, bd_s, jn_e, g2, bd_s]
    have hb := text_bad F (k := 0) h g3 (fX0.tr g5.fr) (fM0.tr g6.fr)
    have x6 := g3.2.2.2.2.2.1
    have eX2 : lq2 (bX6_text_10 F (jX6_text_45 F)) (G + 1) (nI 0) 0 u1 = jX6_text_45 F (nI 0) 0 u1 := by
      show bX6_text_10 F (jX6_text_45 F) (lq2 (bX6_text_10 F (jX6_text_45 F)) G) (nI 0) 0 u1 = _
      unfold bX6_text_10
      rw [i00]
    have eM2 : lq1 (bX7_text_62 F (jX7_text_86 F)) (G + 1) (nI 0) v1 = jX7_text_86 F (nI 0) v1 := by
      show bX7_text_62 F (jX7_text_86 F) (lq1 (bX7_text_62 F (jX7_text_86 F)) G) (nI 0) v1 = _
      unfold bX7_text_62
      rw [x6, if_neg (n0f (by omega) (by omega))]
    rw [← hG] at eX2 eM2
    have f1 : lq2 (bX6_text_10 F (jX6_text_45 F)) F 0 0 u1 = jX6_text_45 F (nI 0) 0 u1 := eX2
    have f2 : lq1 (bX7_text_62 F (jX7_text_86 F)) F 0 v1 = jX7_text_86 F (nI 0) v1 := eM2
    rw [f1, f2]
    exact hb
theorem step_text {u v : St} (h : RR u v) : ∃ (r : Int32) (u' v' : St), pX6_text LF u = some (r, u') ∧ pX7_text LF v = some (r, v') ∧ RR u' v' := st_text LF (by decide) h
