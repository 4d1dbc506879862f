/-! PURE: text: the draught's line -/
theorem draughtT (F : Nat) (hF : 200 ≤ F) {b : Nat → Nat} {n K : Nat} {R : Nat → Nat} {rc rj dt h5 h6 t p e vu : Nat} {u v : St} (hT : TR b n R rc rj dt h5 h6 u v) (hZ : Z0 R (2 * rc)) (hK : Tok b n t p e vu u v) (hp : p < e) (hm : pX7_nameHere F v = some (if K = 11 then -4 else nI K, v)) (k4 : K = 9) : Out b n p (pX2_takesDraught F u) (pX7_readLine F v) u v := by
  have hK' := hK
  have hT' := hT
  obtain ⟨k1, k2, k3, k4', k5, k20, k21, k22, k23, k13, k12, k11, k14, k9⟩ := hK
  obtain ⟨t1, t2, ⟨q1, q2, q3, q4⟩, t4, t5, t6, ⟨t7, t8⟩, t9, t10, t11, t12, t13, t14⟩ := hT
  have n1 := t1.1
  obtain ⟨d, hd⟩ : ∃ d, d = R 46 := ⟨_, rfl⟩
  have u14 : u.1 14 = nI d := by rw [hd]; exact t6.2.2.1
  have B1 := t4.1
  have B2 := t4.2.1
  unfold pX2_takesDraught
  rw [u14]
  by_cases hj : d = 4
  · rw [if_neg (by rw [L4]; exact nlt (by omega) (by omega)), M_lineF F v hm (by omega) k9 k12 t10 q1 t11 q2 t12 q3 (t9 46 (by omega)) B1 (by omega)]
    unfold pX2_fails
    rw [vl_e, bd_s, z01_0, gd_true]
    exact Out.bad (k := 5) (q := p) ⟨by omega, by omega, by omega, Or.inl (by rw [sf_k]; rfl), by rw [sf_n _ _ _ (by omega)]; exact k21, by rw [sf_n _ _ _ (by omega), sf_n _ _ _ (by omega), sf_k]; rfl, by rw [sf_n _ _ _ (by omega), sf_k]⟩ (FrX.rf.sf (by omega) _) (((FrM.rf.sf (by omega) _).sf (by omega) _).sf (by omega) _)
  · have hd4 : d < 4 := by omega
    rw [if_pos (by rw [L4]; exact ylt hd4 (by omega)), M_lineG F v hm (by omega) t10 q1 t11 q2 t12 q3 (t9 46 (by omega)) B1 (by omega) (by omega) (by omega) (by omega), if_neg (show ¬ K = 10 by omega), X_rnum, k4]
    obtain ⟨v0, hv0⟩ : ∃ v0, v0 = stf v 4 (nI dt) := ⟨_, rfl⟩
    have f0 : FrM v v0 := by rw [hv0]; exact FrM.rf.sf (by omega) _
    have l0 : ∀ k, v0.1 k = v.1 k := fun k => by
      rw [hv0, stf_1]
      by_cases z : k = 4
      · rw [if_pos z, z, t12]
      · rw [if_neg z]
    have l2 : v0.2 = v.2 := by rw [hv0]; rfl
    rw [← hv0]
    rcases next2 F hF u v0 t1 (f0.tp t2) k3 k22 ((l0 11).trans k11) ((l0 9).trans k9) with ⟨t1', p1, e1, vu1, u1, v1, g1, g2, g3, g4, g5, g6⟩ | ⟨q, u1, v1, g1, g2, g3, g5, g6⟩
    · have f1 : FrM v v1 := f0.tr g6.fr
      have v146 : v1.2 2 46 = nI d := by rw [g6.2, l2, hd]; exact t9 46 (by omega)
      rw [g1, bd_s, i10, g2, bd_s, g3.2.2.2.2.2.2.2.2.2.2.2.2.2, if_pos (show nI 0 ≤ 0 by decide)]
      rcases chkT F (lo := 0) (hi := 20) u1 v1 (g5.fr.tp t1) g3 (by omega) (by omega) with ⟨a1, a2, a3, a4, a5⟩ | ⟨k, u2, w2, a1, a2, a3, a4, a5⟩
      · have a4' : chk F 0 20 u1 = some (1, u1) := a4
        have a5' : pX7_number F 0 20 v1 = bd (pX7_step F v1) (fun (_ : Unit) (u5 : St) => some (nI vu1, u5)) := a5
        have g3' := g3
        obtain ⟨j1, j2, j3, j4, j5, j20, j21, j22, j23, j13, j12, j11, j14, j9⟩ := g3
        rw [a4', bd_s, i10, vl_e, j23 a1, X_rnum]
        rcases next2 F hF u1 v1 (g5.fr.tp t1) (f1.tp t2) j3 j22 j11 j9 with ⟨t2', p2, e2, vu2, u2, v2, r1, r2, r3, r4, r5, r6⟩ | ⟨q, u2, v2, r1, r2, r3, r5, r6⟩
        · rw [r2, bd_s] at a5'
          obtain ⟨v2a, hv2a⟩ : ∃ v2a, v2a = sta v2 2 (nI (47 + d)) (nI vu1) := ⟨_, rfl⟩
          have r3a : Tok b n t2' p2 e2 vu2 u2 v2a := by rw [hv2a]; exact r3
          have f2 : FrM v v2a := by rw [hv2a]; exact (f1.tr r6.fr).st _ _
          have md : ∀ {x : Int32} {w : St}, pX7_number F 1 9 v2a = some (x, w) → w.2 = v2a.2 → pX7_readMore F (nI 9) v1 = some ((), drW w d x) := fun m m2 => M_draught F hd4 v1 v2 _ v146 a5' r6.2 (by rw [← hv2a]; exact m) (by rw [← hv2a]; exact m2)
          rw [r1, bd_s, i10]
          have T2 : TpX b n u2 := (g5.fr.tr r5.fr).tp t1
          rcases chkT F (lo := 1) (hi := 9) u2 v2a T2 r3a (by omega) (by omega) with ⟨c1, c2, c3, c4, c5⟩ | ⟨k, u3, w3, c1, c2, c3, c4, c5⟩
          · have c4' : chk F 1 9 u2 = some (1, u2) := c4
            have c5' : pX7_number F 1 9 v2a = bd (pX7_step F v2a) (fun (_ : Unit) (u5 : St) => some (nI vu2, u5)) := c5
            obtain ⟨i1, i2, i3, i4, i5, i20, i21, i22, i23, i13, i12, i11, i14, i9⟩ := r3a
            have u214 : u2.1 14 = nI d := ((r5.1 14 (by omega)).trans (g5.1 14 (by omega))).trans u14
            rw [c4', bd_s, i10, i23 c1, X_addD F u2 u214 hd4, bd_s]
            obtain ⟨u3, hu3⟩ : ∃ u3, u3 = stf (sta (sta u2 48 (nI d) (nI vu1)) 49 (nI d) (nI vu2)) 14 (nI (d + 1)) := ⟨_, rfl⟩
            have fX3 : FrX u u3 := by rw [hu3]; exact (((g5.fr.tr r5.fr).st (by omega) _ _).st (by omega) _ _).sf (by omega) _
            rw [← hu3]
            rcases next2 F hF u3 v2a (fX3.tp t1) (f2.tp t2) i3 (by rw [hu3, sf_n _ _ _ (by omega)]; exact i22) i11 i9 with ⟨t4', p4, e4, vu4, u4, v4, s1, s2, s3, s4, s5, s6⟩ | ⟨q, u4, v4, s1, s2, s3, s5, s6⟩
            · rw [s2, bd_s] at c5'
              rw [s1, bd_s, i10, md c5' s6.2, bd_s]
              have C3 : CtX 3 rc rj (drP R d vu1 vu2) u3 := by
                rw [hu3]
                exact (t6.frj (fun i hi => (r5.1 _ (by omega)).trans (g5.1 _ (by omega))) (fun i hi => by rw [r5.2, g5.2])).draught hd.symm hd4 B2 q1 q2
              have lw : ∀ k, k < 11 → (drW v4 d (nI vu2)).1 k = v.1 k := fun k hk => by
                show v4.1 k = v.1 k
                rw [s6.1 k (by omega), hv2a, sta_1, r6.1 k (by omega), g6.1 k (by omega), l0]
              have hTn : TR b n (drP R d vu1 vu2) rc rj dt h5 h6 u4 (drW v4 d (nI vu2)) := by
                refine ⟨(fX3.tr s5.fr).tp t1, (drW_f (f2.tr s6.fr) _ _).tp t2, ⟨q1, q2, q3, fun z => by rw [drP_lo R hd4 _ _ (by omega)]; exact q4 z⟩, t4.draught hd.symm hd4 a3 ⟨c2, c3⟩ q1 q2, t5.c (drP_lo R hd4 _ _ (by omega)) B2 (fun k hk => drP_lo R hd4 _ _ (by omega)), C3.frj (fun i hi => s5.1 _ (by omega)) (fun i hi => by rw [s5.2]), ⟨?_, ?_⟩, fun k hk => ?_, (lw 2 (by omega)).trans t10, (lw 3 (by omega)).trans t11, (lw 4 (by omega)).trans t12, (lw 5 (by omega)).trans t13, (lw 6 (by omega)).trans t14⟩
                · rw [s5.1 18 (by omega), hu3, sf_n _ _ _ (by omega), sta_1, sta_1, r5.1 18 (by omega), g5.1 18 (by omega)]; exact t7
                · rw [s5.1 19 (by omega), hu3, sf_n _ _ _ (by omega), sta_1, sta_1, r5.1 19 (by omega), g5.1 19 (by omega)]; exact t8
                · unfold drW drP
                  rw [sta_h _ _ (by omega)]
                  refine puI ?_ _ Iff.rfl
                  rw [sta_h _ _ (by omega)]
                  refine puI ?_ _ Iff.rfl
                  rw [s6.2, hv2a, sta_h _ _ (by omega)]
                  refine puI ?_ _ Iff.rfl
                  rw [r6.2, g6.2, l2]
                  exact t9 k hk
              have hZn : Z0 (drP R d vu1 vu2) (2 * rc) := fun f f1 f2 => by rw [drP_lo R hd4 _ _ (by omega)]; exact hZ f f1 f2
              have hKn : Tok b n t4' p4 e4 vu4 u4 (drW v4 d (nI vu2)) := s3
              exact (signOut F hF hTn hZn hKn (by have := s3.2.1; have := g3'.2.1; have := r3.2.1; omega) (fX3.tr s5.fr) (drW_f (f2.tr s6.fr) _ _)).w
            · rw [s2, bd_s] at c5'
              rw [s1, bd_s, i00, md c5' s6.2, bd_s]
              exact Out.badT F (s3.dr _ _) (fX3.tr s5.fr) (drW_f (f2.tr s6.fr) _ _)
          · have c1' : chk F 1 9 u2 = some (0, u3) := c1
            have c2' : pX7_number F 1 9 v2a = some (nI 1, w3) := c2
            have nl := numLo F hF u2 v2a T2 (f2.tp t2) r3a (lo := 1) (hi := 9) (by omega) (by omega) c2
            rw [c1', bd_s, i00, md c2' nl.2, bd_s]
            exact Out.badT F (c3.dr _ _) ((g5.fr.tr r5.fr).tr c4) (drW_f (f2.tr c5) _ _)
        · rw [r2, bd_s] at a5'
          have r9 : (sta v2 2 (nI (47 + d)) (nI vu1)).1 9 = nI 1 := r3.2.2.2.2.2.1
          have md := M_draught F hd4 v1 v2 _ v146 a5' r6.2 (M_numB F (sta v2 2 (nI (47 + d)) (nI vu1)) 1 9 r9 (by omega) (by omega)) rfl
          rw [r1, bd_s, i00, bd_s, i00, md, bd_s]
          exact Out.badT F (Bad.dr (w := sta v2 2 (nI (47 + d)) (nI vu1)) r3 _ _) (g5.fr.tr r5.fr) (drW_f ((f1.tr r6.fr).st _ _) _ _)
      · have a1' : chk F 0 20 u1 = some (0, u2) := a1
        have a2' : pX7_number F 0 20 v1 = some (nI 0, w2) := a2
        have nl := numLo F hF u1 v1 (g5.fr.tp t1) (f1.tp t2) g3 (lo := 0) (hi := 20) (by omega) (by omega) a2
        have r9 : (sta w2 2 (nI (47 + d)) (nI 0)).1 9 = nI k := a3.2.2.2.2.2.1
        have md := M_draught F hd4 v1 w2 _ v146 a2' nl.2 (M_numB F (sta w2 2 (nI (47 + d)) (nI 0)) 1 9 r9 a3.1 a3.2.1) rfl
        rw [a1', bd_s, i00, md, bd_s]
        exact Out.badT F (Bad.dr (w := sta w2 2 (nI (47 + d)) (nI 0)) a3 _ _) (g5.fr.tr a4) (drW_f ((f1.tr a5).st _ _) _ _)
    · rw [g1, bd_s, i00, bd_s, i00, g2, bd_s, if_neg g3.le]
      exact Out.bad g3 g5.fr (f0.tr g6.fr)
/-- the docket's line -/
theorem docketT (F : Nat) (hF : 200 ≤ F) {b : Nat → Nat} {n K : Nat} {R : Nat → Nat} {rc rj dt h5 h6 t p e vu : Nat} {u v : St} (hT : TR b n R rc rj dt h5 h6 u v) (hZ : Z0 R (2 * rc)) (hK : Tok b n t p e vu u v) (hp : p < e) (hm : pX7_nameHere F v = some (if K = 11 then -4 else nI K, v)) (k4 : K = 10) : Out b n p (pX2_takesDocket F u) (pX7_readLine F v) u v := by
  have hK' := hK
  have hT' := hT
  obtain ⟨k1, k2, k3, k4', k5, k20, k21, k22, k23, k13, k12, k11, k14, k9⟩ := hK
  obtain ⟨t1, t2, ⟨q1, q2, q3, q4⟩, t4, t5, t6, ⟨t7, t8⟩, t9, t10, t11, t12, t13, t14⟩ := hT
  have n1 := t1.1
  have B1 := t4.1
  have B2 := t4.2.1
  unfold pX2_takesDocket
  rw [t8]
  by_cases hd : dt = 0
  · have c55 := q4 hd
    rw [hd, if_pos (show nI 0 = 0 from rfl), z01_1, gd_true, vl_e, M_lineG F v hm (by omega) t10 q1 t11 q2 t12 q3 (t9 46 (by omega)) B1 (by omega) (by omega) (by omega) (fun _ => hd), if_pos k4, k4]
    obtain ⟨v0, hv0⟩ : ∃ v0, v0 = stf v 4 (nI 1) := ⟨_, rfl⟩
    obtain ⟨u0, hu0⟩ : ∃ u0, u0 = stf u 19 1 := ⟨_, rfl⟩
    have f0 : FrM v v0 := by rw [hv0]; exact FrM.rf.sf (by omega) _
    have e0 : FrX u u0 := by rw [hu0]; exact FrX.rf.sf (by omega) _
    have hT0 : TR b n R rc rj 1 h5 h6 u0 v0 := by
      refine ⟨e0.tp t1, f0.tp t2, ⟨q1, q2, by omega, fun z => by omega⟩, t4, t5, t6.frj (fun i hi => ?_) (fun i hi => by rw [hu0]; rfl), ⟨?_, ?_⟩, fun k hk => by rw [hv0]; exact t9 k hk, ?_, ?_, ?_, ?_, ?_⟩
      · rw [hu0, sf_n _ _ _ (by omega)]
      · rw [hu0, sf_n _ _ _ (by omega)]; exact t7
      · rw [hu0, sf_k]; rfl
      · rw [hv0, sf_n _ _ _ (by omega)]; exact t10
      · rw [hv0, sf_n _ _ _ (by omega)]; exact t11
      · rw [hv0, sf_k]
      · rw [hv0, sf_n _ _ _ (by omega)]; exact t13
      · rw [hv0, sf_n _ _ _ (by omega)]; exact t14
    rw [← hv0, ← hu0]
    rcases next2 F hF u0 v0 hT0.1 hT0.2.1 k3 (by rw [hu0, sf_n _ _ _ (by omega)]; exact k22) (by rw [hv0, sf_n _ _ _ (by omega)]; exact k11) (by rw [hv0, sf_n _ _ _ (by omega)]; exact k9) with ⟨t1', p1, e1, vu1, u1, v1, g1, g2, g3, g4, g5, g6⟩ | ⟨q, u1, v1, g1, g2, g3, g5, g6⟩
    · have er : pX7_readMore F (nI 10) v1 = bd (pX7_readDocket F v1) (fun (_ : Unit) (u6 : St) => some ((), u6)) := by
        unfold pX7_readMore
        rw [L8, ifeq (by omega) (by omega), if_neg (by omega), L9, ifeq (by omega) (by omega), if_neg (by omega), L10, if_pos rfl]
      have es : ∀ x : Option (Unit × St), bd (bd x (fun (_ : Unit) (u6 : St) => some ((), u6))) (fun (_ : Unit) (w : St) => mtail F w) = bd x (fun (_ : Unit) (w : St) => mtail F w) := fun x => by
        cases x with
        | none => rfl
        | some a => rfl
      rw [g1, bd_s, i10, jn_e, g2, bd_s, g3.2.2.2.2.2.2.2.2.2.2.2.2.2, if_pos (show nI 0 ≤ 0 by decide), er, es]
      exact dock_loop F hF 6 0 F F R h5 h6 t1' p1 e1 vu1 u1 v1 (by omega) (by omega) (by omega) (hT0.ft g5 g6) c55 hZ g3 (by have := g3.2.1; omega) (e0.tr g5.fr) (f0.tr g6.fr)
    · rw [g1, bd_s, i00, g2, bd_s, if_neg g3.le]
      exact Out.bad g3 (e0.tr g5.fr) (f0.tr g6.fr)
  · have hd1 : dt = 1 := by omega
    rw [hd1] at t12 ⊢
    rw [if_neg (n0f (by omega) (by omega)), M_lineD F v (by rw [hm, k4, if_neg (by omega)]) k9 k12 t10 q1 t11 q2 t12 (t9 46 (by omega)) B1]
    unfold pX2_fails
    rw [vl_e, bd_s, z01_0, gd_true]
    exact Out.bad (k := 4) (q := p) ⟨by omega, by omega, by omega, Or.inl (by rw [sf_k]; rfl), by rw [sf_n _ _ _ (by omega)]; exact k21, by rw [sf_n _ _ _ (by omega), sf_n _ _ _ (by omega), sf_k]; rfl, by rw [sf_n _ _ _ (by omega), sf_k]⟩ (FrX.rf.sf (by omega) _) (((FrM.rf.sf (by omega) _).sf (by omega) _).sf (by omega) _)
