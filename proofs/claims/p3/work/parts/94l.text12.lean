/-! PURE: text: a case is added -/
def csW (u : St) (rc : Nat) : St := stf (sta (sta (sta (sta u 42 (nI rc) 0) 43 (nI rc) 0) 44 (nI rc) (-4)) 45 (nI rc) (-4)) 12 (nI (rc + 1))
theorem X_addC (F : Nat) {rc : Nat} (u : St) (h12 : u.1 12 = nI rc) (hh : rc < 4) : pX0_addCase F 3 u = some ((), csW u rc) := by
  have e : pX0_addCase F 3 u = if 4 ≤ (u.1 12) then some ((), u) else gd (inb (u.1 12) 4) (vl (sta u 42 (u.1 12) 0) (fun (u1 : St) => gd (inb (u1.1 12) 4) (vl (sta u1 43 (u1.1 12) 0) (fun (u2 : St) => gd (inb (u2.1 12) 4) (vl (sta u2 44 (u2.1 12) (-4)) (fun (u3 : St) => gd (inb (u3.1 12) 4) (vl (sta u3 45 (u3.1 12) (-4)) (fun (u4 : St) => vl (stf u4 12 ((u4.1 12) + 1)) (fun (u5 : St) => some ((), u5)))))))))) := rfl
  rw [e, h12, if_neg (by rw [L4]; exact nle hh (by omega)), gd_i (by omega) (by omega), vl_e, sta_1, h12, gd_i (by omega) (by omega), vl_e, sta_1, sta_1, h12, gd_i (by omega) (by omega), vl_e, sta_1, sta_1, sta_1, h12, gd_i (by omega) (by omega), vl_e, vl_e, sta_1, sta_1, sta_1, sta_1, h12, nI_s]
  rfl
theorem csW_m (u : St) (rc : Nat) {k : Nat} (h : k < 42 ∨ 45 < k) : (csW u rc).2 k = u.2 k := by
  show (sta (sta (sta (sta u 42 (nI rc) 0) 43 (nI rc) 0) 44 (nI rc) (-4)) 45 (nI rc) (-4)).2 k = u.2 k
  rw [sta_m _ _ _ (by omega), sta_m _ _ _ (by omega), sta_m _ _ _ (by omega), sta_m _ _ _ (by omega)]
theorem csW_h (u : St) {rc : Nat} (hr : rc < 4) (i : Nat) : (csW u rc).2 42 i = (if i = rc then 0 else u.2 42 i) ∧ (csW u rc).2 43 i = (if i = rc then 0 else u.2 43 i) ∧ (csW u rc).2 44 i = (if i = rc then -4 else u.2 44 i) ∧ (csW u rc).2 45 i = (if i = rc then -4 else u.2 45 i) := by
  refine ⟨?_, ?_, ?_, ?_⟩
  · show (sta (sta (sta (sta u 42 (nI rc) 0) 43 (nI rc) 0) 44 (nI rc) (-4)) 45 (nI rc) (-4)).2 42 i = _
    rw [sta_m _ _ _ (by omega), sta_m _ _ _ (by omega), sta_m _ _ _ (by omega), sta_h _ _ (by omega)]
  · show (sta (sta (sta (sta u 42 (nI rc) 0) 43 (nI rc) 0) 44 (nI rc) (-4)) 45 (nI rc) (-4)).2 43 i = _
    rw [sta_m _ _ _ (by omega), sta_m _ _ _ (by omega), sta_h _ _ (by omega), sta_m _ _ _ (by omega)]
  · show (sta (sta (sta (sta u 42 (nI rc) 0) 43 (nI rc) 0) 44 (nI rc) (-4)) 45 (nI rc) (-4)).2 44 i = _
    rw [sta_m _ _ _ (by omega), sta_h _ _ (by omega), sta_m _ _ _ (by omega), sta_m _ _ _ (by omega)]
  · show (sta (sta (sta (sta u 42 (nI rc) 0) 43 (nI rc) 0) 44 (nI rc) (-4)) 45 (nI rc) (-4)).2 45 i = _
    rw [sta_h _ _ (by omega), sta_m _ _ _ (by omega), sta_m _ _ _ (by omega), sta_m _ _ _ (by omega)]
theorem csW_f {u w : St} (f : FrX u w) (rc : Nat) : FrX u (csW w rc) := ((((f.st (by omega) _ _).st (by omega) _ _).st (by omega) _ _).st (by omega) _ _).sf (by omega) _
theorem CtX.case {rc rj : Nat} {R R2 : Nat → Nat} {u w : St} (hC : CtX 3 rc rj R u) (hr : rc < 4) (B1 : R 46 ≤ 4) (B2 : R 55 ≤ 6) (hj : rj ≤ 3) (z : ∀ k, 24 ≤ k → k < 40 → R k = 0) (s : ∀ k, k < 16 → w.1 k = u.1 k) (o : ∀ k, 42 ≤ k → k ≤ 51 → w.2 k = u.2 k) (e : ∀ f, f < 2 * rc → ∀ k, w.2 k f = u.2 k f) (eR : ∀ k, k < 2 * rc ∨ (8 ≤ k ∧ k < 8 + 2 * rc) ∨ (16 ≤ k ∧ k < 16 + 2 * rc) ∨ 24 ≤ k → R2 k = R k) (n0 : w.2 39 (2 * rc) = nI (R2 (2 * rc)) ∧ w.2 40 (2 * rc) = nI (R2 (8 + 2 * rc)) ∧ w.2 41 (2 * rc) = nI (R2 (16 + 2 * rc))) (n1 : w.2 39 (2 * rc + 1) = nI (R2 (2 * rc + 1)) ∧ w.2 40 (2 * rc + 1) = nI (R2 (8 + (2 * rc + 1))) ∧ w.2 41 (2 * rc + 1) = nI (R2 (16 + (2 * rc + 1)))) : CtX 3 (rc + 1) rj R2 (csW w rc) := by
  obtain ⟨h1, h2, h3, h4, h5, h6, h7, h8, h9⟩ := hC
  have s' : ∀ k, k < 16 → k ≠ 12 → (csW w rc).1 k = u.1 k := fun k k1 k2 => by
    show (stf (sta (sta (sta (sta w 42 (nI rc) 0) 43 (nI rc) 0) 44 (nI rc) (-4)) 45 (nI rc) (-4)) 12 (nI (rc + 1))).1 k = u.1 k
    rw [sf_n _ _ _ k2]
    exact s k k1
  refine ⟨sf_k _ _ _, (s' 13 (by omega) (by omega)).trans h2, (s' 14 (by omega) (by omega)).trans (h3.trans (by rw [eR 46 (by omega)])), (s' 15 (by omega) (by omega)).trans (h4.trans (by rw [eR 55 (by omega)])), fun f hf => ?_, fun i hi => ?_, fun i hi => ?_, fun i hi => ?_, fun i hi => ?_⟩
  · rw [csW_m w rc (by omega), csW_m w rc (by omega), csW_m w rc (by omega)]
    rcases (by omega : f < 2 * rc ∨ f = 2 * rc ∨ f = 2 * rc + 1) with q | q | q
    · rw [e f q, e f q, e f q, eR f (by omega), eR (8 + f) (by omega), eR (16 + f) (by omega)]
      exact h5 f q
    · rw [q]; exact n0
    · rw [q]; exact n1
  · obtain ⟨y1, y2, y3, y4⟩ := csW_h w hr i
    have eo : ∀ k, 42 ≤ k → k ≤ 51 → w.2 k i = u.2 k i := fun k a1 a2 => by rw [o k a1 a2]
    rw [eR (24 + i) (by omega), eR (28 + i) (by omega), eR (32 + i) (by omega), eR (36 + i) (by omega)]
    by_cases q : i = rc
    · rw [if_pos q] at y1 y2 y3 y4
      rw [z (24 + i) (by omega) (by omega), z (28 + i) (by omega) (by omega), z (32 + i) (by omega) (by omega), z (36 + i) (by omega) (by omega)]
      exact ⟨y1, y2, y3, y4⟩
    · rw [if_neg q] at y1 y2 y3 y4
      have old := h6 i (by omega)
      exact ⟨y1.trans ((eo 42 (by omega) (by omega)).trans old.1), y2.trans ((eo 43 (by omega) (by omega)).trans old.2.1), y3.trans ((eo 44 (by omega) (by omega)).trans old.2.2.1), y4.trans ((eo 45 (by omega) (by omega)).trans old.2.2.2)⟩
  · rw [csW_m w rc (by omega), csW_m w rc (by omega), o _ (by omega) (by omega), o _ (by omega) (by omega), eR _ (by omega), eR _ (by omega)]
    exact h7 i hi
  · rw [eR 46 (by omega)] at hi
    rw [csW_m w rc (by omega), csW_m w rc (by omega), o _ (by omega) (by omega), o _ (by omega) (by omega), eR _ (by omega), eR _ (by omega)]
    exact h8 i hi
  · rw [eR 55 (by omega)] at hi
    rw [csW_m w rc (by omega), csW_m w rc (by omega), o _ (by omega) (by omega), o _ (by omega) (by omega), eR _ (by omega), eR _ (by omega)]
    exact h9 i hi
theorem BD.case {R R2 : Nat → Nat} {rc rj : Nat} (hB : BD R rc rj) (hr : rc < 4) (hj : rj ≤ 3) (eR : ∀ k, k < 2 * rc ∨ (8 ≤ k ∧ k < 8 + 2 * rc) ∨ (16 ≤ k ∧ k < 16 + 2 * rc) ∨ 24 ≤ k → R2 k = R k) (n0 : R2 (2 * rc) ≤ 3 ∧ R2 (8 + 2 * rc) ≤ 99 ∧ R2 (16 + 2 * rc) ≤ 9) (n1 : R2 (2 * rc + 1) ≤ 3 ∧ R2 (8 + (2 * rc + 1)) ≤ 99 ∧ R2 (16 + (2 * rc + 1)) ≤ 9) : BD R2 (rc + 1) rj := by
  obtain ⟨b1, b2, b3, b4, b5, b6, b7⟩ := hB
  refine ⟨by rw [eR 46 (by omega)]; exact b1, by rw [eR 55 (by omega)]; exact b2, fun f hf => ?_, fun k k1 k2 => ?_, fun i hi => ?_, fun i hi => ?_, fun i hi => ?_⟩
  · rcases (by omega : f < 2 * rc ∨ f = 2 * rc ∨ f = 2 * rc + 1) with q | q | q
    · rw [eR f (by omega), eR (8 + f) (by omega), eR (16 + f) (by omega)]
      exact b3 f q
    · rw [q]; exact n0
    · rw [q]; exact n1
  · rw [eR k (by omega)]
    exact b4 k k1 k2
  · rw [eR _ (by omega), eR _ (by omega)]
    exact b5 i hi
  · rw [eR 46 (by omega)] at hi
    rw [eR _ (by omega), eR _ (by omega)]
    exact b6 i hi
  · rw [eR 55 (by omega)] at hi
    rw [eR _ (by omega), eR _ (by omega)]
    exact b7 i hi
theorem Bad.m2 {k q : Nat} {u w : St} (h : Bad k q u w) (y : Int32) : Bad k q u (stf w 2 y) := by
  obtain ⟨x1, x2, x3, x4, x5, x6, x7⟩ := h
  exact ⟨x1, x2, x3, x4, x5, (sf_n _ _ _ (by omega)).trans x6, (sf_n _ _ _ (by omega)).trans x7⟩
theorem M_case (F : Nat) (v : St) : pX7_readMore F (nI 8) v = bd (pX7_readFlame F (2 * (v.1 2)) v) (fun (_ : Unit) (u14 : St) => bd (pX7_readFlame F ((2 * (u14.1 2)) + 1) u14) (fun (_ : Unit) (u15 : St) => some ((), stf u15 2 ((u15.1 2) + 1)))) := by
  unfold pX7_readMore
  rw [L8, if_pos rfl]
  rfl
theorem caseT (F : Nat) (hF : 200 ≤ F) {b : Nat → Nat} {n K : Nat} {R : Nat → Nat} {rc rj dt h5 h6 t p e vu : Nat} {u v : St} (hT : TR b n R rc rj dt h5 h6 u v) (hZ : Z0 R (2 * rc)) (hK : Tok b n t p e vu u v) (hp : p < e) (hm : pX7_nameHere F v = some (if K = 11 then -4 else nI K, v)) (k4 : K = 8) : Out b n p (pX2_takesCase F u) (pX7_readLine F v) u v := by
  have hK' := hK
  have hT' := hT
  obtain ⟨k1, k2, k3, k4', k5, k20, k21, k22, k23, k13, k12, k11, k14, k9⟩ := hK
  obtain ⟨t1, t2, ⟨q1, q2, q3, q4⟩, t4, t5, t6, ⟨t7, t8⟩, t9, t10, t11, t12, t13, t14⟩ := hT
  have n1 := t1.1
  have u12 : u.1 12 = nI rc := t6.1
  have B1 := t4.1
  have B2 := t4.2.1
  unfold pX2_takesCase
  rw [u12]
  by_cases hj : rc = 4
  · rw [if_neg (by rw [L4]; exact nlt (by omega) (by omega)), M_lineF F v hm (by omega) k9 k12 t10 q1 t11 q2 t12 q3 (t9 46 (by omega)) B1 (by omega)]
    unfold pX2_fails
    rw [vl_e, bd_s, z01_0, gd_true]
    exact Out.bad (k := 5) (q := p) ⟨by omega, by omega, by omega, Or.inl (by rw [sf_k]; rfl), by rw [sf_n _ _ _ (by omega)]; exact k21, by rw [sf_n _ _ _ (by omega), sf_n _ _ _ (by omega), sf_k]; rfl, by rw [sf_n _ _ _ (by omega), sf_k]⟩ (FrX.rf.sf (by omega) _) (((FrM.rf.sf (by omega) _).sf (by omega) _).sf (by omega) _)
  · have hr : rc < 4 := by omega
    rw [if_pos (by rw [L4]; exact ylt hr (by omega)), M_lineG F v hm (by omega) t10 q1 t11 q2 t12 q3 (t9 46 (by omega)) B1 (by omega) (by omega) (by omega) (by omega), if_neg (show ¬ K = 10 by omega), k4]
    obtain ⟨v0, hv0⟩ : ∃ v0, v0 = stf v 4 (nI dt) := ⟨_, rfl⟩
    have f0 : FrM v v0 := by rw [hv0]; exact FrM.rf.sf (by omega) _
    have l0 : ∀ k, v0.1 k = v.1 k := fun k => by
      rw [hv0, stf_1]
      by_cases z : k = 4
      · rw [if_pos z, z, t12]
      · rw [if_neg z]
    have l2 : v0.2 = v.2 := by rw [hv0]; rfl
    rw [← hv0]
    rcases next2 F hF u v0 t1 (f0.tp t2) k3 k22 ((l0 11).trans k11) ((l0 9).trans k9) with ⟨t1', p1, e1, vu1, u1, v1, g1, g2, g3, g4, g5, g6⟩ | ⟨q, u1, v1, g1, g2, g3, g5, g6⟩
    · have f1 : FrM v v1 := f0.tr g6.fr
      have v12 : v1.1 2 = nI rc := ((g6.1 2 (by omega)).trans (l0 2)).trans t10
      have u112 : u1.1 12 = nI rc := (g5.1 12 (by omega)).trans u12
      have R1 : ∀ k, k < 68 → v1.2 2 k = nI (R k) := fun k hk => by rw [g6.2, l2]; exact t9 k hk
      rw [g1, bd_s, i10, g2, bd_s, g3.2.2.2.2.2.2.2.2.2.2.2.2.2, if_pos (show nI 0 ≤ 0 by decide), M_case, v12, u112, tm2]
      rcases flameT F hF (a := 2 * rc) u1 v1 (g5.fr.tp t1) (f1.tp t2) g3 (by omega) R1 ((g5.1 18 (by omega)).trans t7) (hZ (2 * rc) (by omega) (by omega)) with ⟨Ra, t2', p2, e2, vu2, u2, v2, a1, a2, a3, a4, a5, a6, a7, a8, a9, a10, a11, a12, a13, a14, a15⟩ | ⟨k, q, u2, v2, a1, a2, a3, a4, a5⟩
      · have u212 : u2.1 12 = nI rc := (a12 12 (by omega)).trans u112
        have v22 : v2.1 2 = nI rc := (a13 2 (by omega)).trans v12
        rw [a1, bd_s, i10, a2, bd_s, u212, v22, tm2, nI_s]
        rcases flameT F hF (a := 2 * rc + 1) u2 v2 ((g5.fr.tr a14).tp t1) ((f1.tr a15).tp t2) a3 (by omega) a5 a6 (by rw [a7 _ (by omega) (by omega) (by omega)]; exact hZ (2 * rc + 1) (by omega) (by omega)) with ⟨Rb, t3', p3, e3, vu3, u3, v3, c1, c2, c3, c4, c5, c6, c7, c8, c9, c10, c11, c12, c13, c14, c15⟩ | ⟨k, q, u3, v3, c1, c2, c3, c4, c5⟩
        · have u312 : u3.1 12 = nI rc := (c12 12 (by omega)).trans u212
          have v32 : v3.1 2 = nI rc := (c13 2 (by omega)).trans v22
          rw [c1, bd_s, i10, c2, bd_s, X_addC F u3 u312 hr, bd_s, bd_s, v32, nI_s]
          have fX : FrX u u3 := (g5.fr.tr a14).tr c14
          have fM : FrM v v3 := (f1.tr a15).tr c15
          have eR : ∀ k, k < 2 * rc ∨ (8 ≤ k ∧ k < 8 + 2 * rc) ∨ (16 ≤ k ∧ k < 16 + 2 * rc) ∨ 24 ≤ k → Rb k = R k := fun k hk => by rw [c7 k (by omega) (by omega) (by omega), a7 k (by omega) (by omega) (by omega)]
          have s0 : ∀ k, k < 20 → u3.1 k = u.1 k := fun k hk => ((c12 k (by omega)).trans (a12 k (by omega))).trans (g5.1 k (by omega))
          have o0 : ∀ k, 42 ≤ k → k ≤ 51 → u3.2 k = u.2 k := fun k h1 h2 => by rw [c11 k (by omega) (by omega) (by omega), a11 k (by omega) (by omega) (by omega), g5.2]
          have w0 : ∀ k, k < 9 → v3.1 k = v.1 k := fun k hk => (((c13 k hk).trans (a13 k hk)).trans (g6.1 k (by omega))).trans (l0 k)
          have C3 : CtX 3 (rc + 1) rj Rb (csW u3 rc) := t6.case hr B1 B2 q2 t4.2.2.2.1 (fun k hk => s0 k (by omega)) o0 (fun f hf k => by rw [c10 k f (by omega), a10 k f (by omega), g5.2]) eR ⟨by rw [c10 _ _ (by omega), c7 _ (by omega) (by omega) (by omega)]; exact a9.1, by rw [c10 _ _ (by omega), c7 _ (by omega) (by omega) (by omega)]; exact a9.2.1, by rw [c10 _ _ (by omega), c7 _ (by omega) (by omega) (by omega)]; exact a9.2.2⟩ c9
          have hTn : TR b n Rb (rc + 1) rj dt h5 h6 (csW u3 rc) (stf v3 2 (nI (rc + 1))) := by
            refine ⟨(csW_f fX rc).tp t1, (fM.sf (by omega) _).tp t2, ⟨by omega, q2, q3, fun z => by rw [eR 55 (by omega)]; exact q4 z⟩, t4.case hr q2 eR ⟨by rw [c7 _ (by omega) (by omega) (by omega)]; exact a8.1, by rw [c7 _ (by omega) (by omega) (by omega)]; exact a8.2.1, by rw [c7 _ (by omega) (by omega) (by omega)]; exact a8.2.2⟩ c8, t5.c (eR 55 (by omega)) B2 (fun k hk => eR k (by omega)), C3, ⟨?_, ?_⟩, c5, sf_k _ _ _, ?_, ?_, ?_, ?_⟩
            · exact (sf_n _ _ _ (by omega)).trans c6
            · exact (sf_n _ _ _ (by omega)).trans ((s0 19 (by omega)).trans t8)
            · exact (sf_n _ _ _ (by omega)).trans ((w0 3 (by omega)).trans t11)
            · exact (sf_n _ _ _ (by omega)).trans ((w0 4 (by omega)).trans t12)
            · exact (sf_n _ _ _ (by omega)).trans ((w0 5 (by omega)).trans t13)
            · exact (sf_n _ _ _ (by omega)).trans ((w0 6 (by omega)).trans t14)
          have hZn : Z0 Rb (2 * (rc + 1)) := fun f f1 f2 => by rw [c7 _ (by omega) (by omega) (by omega), a7 _ (by omega) (by omega) (by omega)]; exact hZ f (by omega) f2
          have hKn : Tok b n t3' p3 e3 vu3 (csW u3 rc) (stf v3 2 (nI (rc + 1))) := by
            obtain ⟨r1, r2, r3, r4, r5, r20, r21, r22, r23, r13, r12, r11, r14, r9⟩ := c3
            exact ⟨r1, r2, r3, r4, r5, (sf_n _ _ _ (by omega)).trans r20, (sf_n _ _ _ (by omega)).trans r21, (sf_n _ _ _ (by omega)).trans r22, fun z => (sf_n _ _ _ (by omega)).trans (r23 z), (sf_n _ _ _ (by omega)).trans r13, (sf_n _ _ _ (by omega)).trans r12, (sf_n _ _ _ (by omega)).trans r11, (sf_n _ _ _ (by omega)).trans r14, (sf_n _ _ _ (by omega)).trans r9⟩
          exact (signOut F hF hTn hZn hKn (by have := c3.2.1; have := a3.2.1; have := g3.2.1; omega) (csW_f fX rc) (fM.sf (by omega) _)).z
        · rw [c1, bd_s, i00, c2, bd_s, bd_s]
          exact Out.badT F (c3.m2 _) ((g5.fr.tr a14).tr c4) (((f1.tr a15).tr c5).sf (by omega) _)
      · rw [a1, bd_s, i00, a2, bd_s, M_flameB F v2 _ a3.2.2.2.2.2.1 a3.1 a3.2.1, bd_s, bd_s]
        exact Out.badT F (a3.m2 _) (g5.fr.tr a4) ((f1.tr a5).sf (by omega) _)
    · rw [g1, bd_s, i00, g2, bd_s, if_neg g3.le]
      exact Out.bad g3 g5.fr (f0.tr g6.fr)
/-- a line -/
theorem lineT (F : Nat) (hF : 200 ≤ F) {b : Nat → Nat} {n : Nat} {R : Nat → Nat} {rc rj dt h5 h6 t p e vu : Nat} {u v : St} (hT : TR b n R rc rj dt h5 h6 u v) (hZ : Z0 R (2 * rc)) (hK : Tok b n t p e vu u v) (ht : t ≠ 0) : Out b n p (pX2_takesLine F u) (pX7_readLine F v) u v := by
  obtain ⟨K, hK11, hxn, hmn⟩ := nameK F hF u v hT.1 hT.2.1 hK
  have hp := hK.2.2.2.1 ht
  rw [X_line F u hK11 hxn]
  by_cases q8 : K = 8
  · rw [if_pos q8]
    exact (caseT F hF hT hZ hK hp hmn q8).z
  · rw [if_neg q8]
    by_cases q9 : K = 9
    · rw [if_pos q9]
      exact (draughtT F hF hT hZ hK hp hmn q9).z
    · rw [if_neg q9]
      by_cases q10 : K = 10
      · rw [if_pos q10]
        exact (docketT F hF hT hZ hK hp hmn q10).z
      · rw [if_neg q10]
        by_cases q : 4 ≤ K ∧ K < 8
        · rw [if_pos q]
          exact (judgeT F hF hT hZ hK hp hmn q).z
        · rw [if_neg q]
          have n1 := hT.1.1
          obtain ⟨k1, k2, k3, k4', k5, k20, k21, k22, k23, k13, k12, k11, k14, k9⟩ := hK
          rw [M_lineN F hK11 v hmn k9 k12 (by omega)]
          exact Out.bad (k := 2) (q := p) ⟨by omega, by omega, by omega, Or.inl (by rw [sf_k]; rfl), by rw [sf_n _ _ _ (by omega)]; exact k21, by rw [sf_n _ _ _ (by omega), sf_k]; rfl, by rw [sf_k]⟩ (FrX.rf.sf (by omega) _) ((FrM.rf.sf (by omega) _).sf (by omega) _)
