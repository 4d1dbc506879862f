/-! PURE: text: a judge is added -/
def jdP (R : Nat → Nat) (h c j : Nat) : Nat → Nat := pu (pu R (40 + h) c) (43 + h) j
theorem jdP_lo (R : Nat → Nat) {h : Nat} (hh : h < 3) (c j : Nat) {k : Nat} (hk : k < 40 ∨ 46 ≤ k) : jdP R h c j k = R k := by
  unfold jdP
  rw [pu_n _ (by omega), pu_n _ (by omega)]
theorem jdP_a (R : Nat → Nat) (h c j : Nat) {i : Nat} (hi : i < 3) : jdP R h c j (40 + i) = if i = h then c else R (40 + i) := by
  unfold jdP
  rw [pu_n _ (by omega)]
  by_cases q : i = h
  · rw [q, if_pos rfl, pu_s]
  · rw [if_neg q, pu_n _ (by omega)]
theorem jdP_b (R : Nat → Nat) {h : Nat} (hh : h < 3) (c j : Nat) {i : Nat} (hi : i < 3) : jdP R h c j (43 + i) = if i = h then j else R (43 + i) := by
  unfold jdP
  by_cases q : i = h
  · rw [q, if_pos rfl, pu_s]
  · rw [if_neg q, pu_n _ (by omega), pu_n _ (by omega)]
theorem X_addJ (F : Nat) {h : Nat} (u : St) (h13 : u.1 13 = nI h) (hh : h < 3) (x y : Int32) : pX0_addJudge F 3 x y u = some (1, stf (sta (sta u 46 (nI h) x) 47 (nI h) y) 13 (nI (h + 1))) := by
  have e : pX0_addJudge F 3 x y u = if (u.1 13) < 3 then gd (inb (u.1 13) 3) (vl (sta u 46 (u.1 13) x) (fun (u1 : St) => gd (inb (u1.1 13) 3) (vl (sta u1 47 (u1.1 13) y) (fun (u2 : St) => vl (stf u2 13 ((u2.1 13) + 1)) (fun (u3 : St) => some (1, u3)))))) else some (0, u) := rfl
  rw [e, h13, if_pos (by rw [L3]; exact ylt hh (by omega)), gd_i (by omega) (by omega), vl_e, sta_1, h13, gd_i (by omega) (by omega), vl_e, vl_e, sta_1, sta_1, h13, nI_s]
theorem CtX.judge {c0 jn x y : Nat} {R : Nat → Nat} {u : St} (hC : CtX 3 c0 jn R u) (b : R 46 ≤ 4) (b2 : R 55 ≤ 6) (hc : c0 ≤ 4) (hj : jn < 3) : CtX 3 c0 (jn + 1) (jdP R jn x y) (stf (sta (sta u 46 (nI jn) (nI x)) 47 (nI jn) (nI y)) 13 (nI (jn + 1))) := by
  obtain ⟨h1, h2, h3, h4, h5, h6, h7, h8, h9⟩ := hC
  have a : ∀ k, k ≠ 46 → k ≠ 47 → (stf (sta (sta u 46 (nI jn) (nI x)) 47 (nI jn) (nI y)) 13 (nI (jn + 1))).2 k = u.2 k := fun k k1 k2 => by
    show (sta (sta u 46 (nI jn) (nI x)) 47 (nI jn) (nI y)).2 k = u.2 k
    rw [sta_m _ _ _ k2, sta_m _ _ _ k1]
  have lo : ∀ {k : Nat}, (k < 40 ∨ 46 ≤ k) → jdP R jn x y k = R k := fun hk => jdP_lo R hj x y hk
  refine ⟨(sf_n _ _ _ (by omega)).trans h1, sf_k _ _ _, ((sf_n _ _ _ (by omega)).trans h3).trans (by rw [lo (by omega)]), ((sf_n _ _ _ (by omega)).trans h4).trans (by rw [lo (by omega)]), fun f hf => ?_, fun i hi => ?_, fun i hi => ?_, fun i hi => ?_, fun i hi => ?_⟩
  · rw [a _ (by omega) (by omega), a _ (by omega) (by omega), a _ (by omega) (by omega), lo (by omega), lo (by omega), lo (by omega)]
    exact h5 f hf
  · rw [a _ (by omega) (by omega), a _ (by omega) (by omega), a _ (by omega) (by omega), a _ (by omega) (by omega), lo (by omega), lo (by omega), lo (by omega), lo (by omega)]
    exact h6 i hi
  · rw [jdP_a R jn x y (by omega), jdP_b R hj x y (by omega)]
    have w1 : (stf (sta (sta u 46 (nI jn) (nI x)) 47 (nI jn) (nI y)) 13 (nI (jn + 1))).2 46 i = if i = jn then nI x else u.2 46 i := by
      show (sta (sta u 46 (nI jn) (nI x)) 47 (nI jn) (nI y)).2 46 i = _
      rw [sta_m _ _ _ (by omega), sta_h _ _ (by omega)]
    have w2 : (stf (sta (sta u 46 (nI jn) (nI x)) 47 (nI jn) (nI y)) 13 (nI (jn + 1))).2 47 i = if i = jn then nI y else u.2 47 i := by
      show (sta (sta u 46 (nI jn) (nI x)) 47 (nI jn) (nI y)).2 47 i = _
      rw [sta_h _ _ (by omega), sta_m _ _ _ (by omega)]
    refine ⟨w1.trans ?_, w2.trans ?_⟩
    · by_cases q : i = jn
      · rw [if_pos q, if_pos q]
      · rw [if_neg q, if_neg q]
        exact (h7 i (by omega)).1
    · by_cases q : i = jn
      · rw [if_pos q, if_pos q]
      · rw [if_neg q, if_neg q]
        exact (h7 i (by omega)).2
  · rw [lo (by omega)] at hi
    rw [a _ (by omega) (by omega), a _ (by omega) (by omega), lo (by omega), lo (by omega)]
    exact h8 i hi
  · rw [lo (by omega)] at hi
    rw [a _ (by omega) (by omega), a _ (by omega) (by omega), lo (by omega), lo (by omega)]
    exact h9 i hi
theorem BD.judge {R : Nat → Nat} {rc rj x y : Nat} (hB : BD R rc rj) (hj : rj < 3) (hx : x ≤ 3) (hy : 1 ≤ y ∧ y ≤ 9) (hc : rc ≤ 4) : BD (jdP R rj x y) rc (rj + 1) := by
  obtain ⟨b1, b2, b3, b4, b5, b6, b7⟩ := hB
  have lo : ∀ {k : Nat}, (k < 40 ∨ 46 ≤ k) → jdP R rj x y k = R k := fun hk => jdP_lo R hj x y hk
  refine ⟨by rw [lo (by omega)]; exact b1, by rw [lo (by omega)]; exact b2, fun f hf => ?_, fun k k1 k2 => ?_, fun i hi => ?_, fun i hi => ?_, fun i hi => ?_⟩
  · rw [lo (by omega), lo (by omega), lo (by omega)]
    exact b3 f hf
  · rw [lo (by omega)]
    exact b4 k k1 k2
  · rw [jdP_a R rj x y (by omega), jdP_b R hj x y (by omega)]
    by_cases q : i = rj
    · rw [if_pos q, if_pos q]
      exact ⟨hx, hy⟩
    · rw [if_neg q, if_neg q]
      exact b5 i (by omega)
  · rw [lo (by omega)] at hi
    rw [lo (by omega), lo (by omega)]
    exact b6 i hi
  · rw [lo (by omega)] at hi
    rw [lo (by omega), lo (by omega)]
    exact b7 i hi
theorem HI.c {R R' : Nat → Nat} {h5 h6 : Nat} (hI : HI R h5 h6) (e : R' 55 = R 55) (b : R 55 ≤ 6) (e2 : ∀ k, 56 ≤ k → R' k = R k) : HI R' h5 h6 := by
  obtain ⟨b1, b2, b3, b4, b5⟩ := hI
  refine ⟨b1, b2, fun i hi => ?_, ?_, ?_⟩
  · rw [e] at hi
    rw [e2 _ (by omega), e2 _ (by omega)]
    exact b3 i hi
  · rcases b4 with z | ⟨i, z1, z2⟩
    · exact Or.inl z
    · exact Or.inr ⟨i, by omega, by rw [e2 _ (by omega)]; exact z2⟩
  · rcases b5 with z | ⟨i, z1, z2⟩
    · exact Or.inl z
    · exact Or.inr ⟨i, by omega, by rw [e2 _ (by omega)]; exact z2⟩
theorem Bad.m3 {k q : Nat} {u w : St} (h : Bad k q u w) (i x y : Int32) : Bad k q u (stf (sta w 2 i x) 3 y) := by
  obtain ⟨x1, x2, x3, x4, x5, x6, x7⟩ := h
  exact ⟨x1, x2, x3, x4, x5, (sf_n _ _ _ (by omega)).trans x6, (sf_n _ _ _ (by omega)).trans x7⟩
theorem Out.bad {b : Nat → Nat} {n p k q : Nat} {u v u2 w2 : St} (h : Bad k q u2 w2) (fX : FrX u u2) (fM : FrM v w2) : Out b n p (some (0, u2)) (some ((), w2)) u v := Or.inr ⟨k, q, u2, w2, rfl, rfl, h, fX, fM⟩
theorem Out.badT (F : Nat) {b : Nat → Nat} {n p k q : Nat} {u v u2 w2 : St} (h : Bad k q u2 w2) (fX : FrX u u2) (fM : FrM v w2) : Out b n p (some (0, u2)) (mtail F w2) u v := by
  rw [mtailB F w2 h.2.2.2.2.2.1 h.1 h.2.1]
  exact Out.bad h fX fM
theorem Bad.le {k q : Nat} {u w : St} (h : Bad k q u w) : ¬ w.1 9 ≤ 0 := by
  rw [h.2.2.2.2.2.1, L0]
  exact nle h.1 (by have := h.2.1; omega)
theorem M_judge (F : Nat) {K rj : Nat} (hK : 4 ≤ K ∧ K < 8) (hj : rj < 3) (v w : St) {x : Int32} (h3 : v.1 3 = nI rj) (m : pX7_number F 1 9 (sta v 2 (nI (40 + rj)) (nI (K - 4))) = some (x, w)) : pX7_readMore F (nI K) v = some ((), stf (sta w 2 (nI (43 + rj)) x) 3 (w.1 3 + 1)) := by
  unfold pX7_readMore
  rw [L8, ifeq (by omega) (by omega), if_neg (by omega), L9, ifeq (by omega) (by omega), if_neg (by omega), L10, ifeq (by omega) (by omega), if_neg (by omega), h3, L40, nI_add, gd_i (by omega) (by omega), vl_e, L4, subI (by omega), ← L9, m, bd_s, sta_1, h3, L43, nI_add, gd_i (by omega) (by omega), vl_e, vl_e, sta_1]
theorem judgeT (F : Nat) (hF : 200 ≤ F) {b : Nat → Nat} {n K : Nat} {R : Nat → Nat} {rc rj dt h5 h6 t p e vu : Nat} {u v : St} (hT : TR b n R rc rj dt h5 h6 u v) (hZ : Z0 R (2 * rc)) (hK : Tok b n t p e vu u v) (hp : p < e) (hm : pX7_nameHere F v = some (if K = 11 then -4 else nI K, v)) (k4 : 4 ≤ K ∧ K < 8) : Out b n p (pX2_takesJudge F (nI (K - 4)) u) (pX7_readLine F v) u v := by
  have hK' := hK
  have hT' := hT
  obtain ⟨k1, k2, k3, k4', k5, k20, k21, k22, k23, k13, k12, k11, k14, k9⟩ := hK
  obtain ⟨t1, t2, ⟨q1, q2, q3, q4⟩, t4, t5, t6, ⟨t7, t8⟩, t9, t10, t11, t12, t13, t14⟩ := hT
  have n1 := t1.1
  have u13 : u.1 13 = nI rj := t6.2.1
  have B1 := t4.1
  have B2 := t4.2.1
  unfold pX2_takesJudge
  rw [u13]
  by_cases hj : rj = 3
  · rw [if_neg (by rw [L3]; exact nlt (by omega) (by omega)), M_lineF F v hm (by omega) k9 k12 t10 q1 t11 q2 t12 q3 (t9 46 (by omega)) B1 (by omega)]
    unfold pX2_fails
    rw [vl_e, bd_s, z01_0, gd_true]
    exact Out.bad (k := 5) (q := p) ⟨by omega, by omega, by omega, Or.inl (by rw [sf_k]; rfl), by rw [sf_n _ _ _ (by omega)]; exact k21, by rw [sf_n _ _ _ (by omega), sf_n _ _ _ (by omega), sf_k]; rfl, by rw [sf_n _ _ _ (by omega), sf_k]⟩ (FrX.rf.sf (by omega) _) (((FrM.rf.sf (by omega) _).sf (by omega) _).sf (by omega) _)
  · have hj3 : rj < 3 := by omega
    rw [if_pos (by rw [L3]; exact ylt hj3 (by omega)), M_lineG F v hm (by omega) t10 q1 t11 q2 t12 q3 (t9 46 (by omega)) B1 (by omega) (by omega) (by omega) (by omega), if_neg (show ¬ K = 10 by omega), X_rnum]
    obtain ⟨v0, hv0⟩ : ∃ v0, v0 = stf v 4 (nI dt) := ⟨_, rfl⟩
    have f0 : FrM v v0 := by rw [hv0]; exact FrM.rf.sf (by omega) _
    have l0 : ∀ k, v0.1 k = v.1 k := fun k => by
      rw [hv0, stf_1]
      by_cases z : k = 4
      · rw [if_pos z, z, t12]
      · rw [if_neg z]
    rw [← hv0]
    rcases next2 F hF u v0 t1 (f0.tp t2) k3 k22 ((l0 11).trans k11) ((l0 9).trans k9) with ⟨t1', p1, e1, vu1, u1, v1, g1, g2, g3, g4, g5, g6⟩ | ⟨q, u1, v1, g1, g2, g3, g5, g6⟩
    · obtain ⟨v1a, hv1a⟩ : ∃ v1a, v1a = sta v1 2 (nI (40 + rj)) (nI (K - 4)) := ⟨_, rfl⟩
      have g3a : Tok b n t1' p1 e1 vu1 u1 v1a := by rw [hv1a]; exact g3
      have f1 : FrM v v1a := by rw [hv1a]; exact (f0.tr g6.fr).st _ _
      have v13 : v1.1 3 = nI rj := ((g6.1 3 (by omega)).trans (l0 3)).trans t11
      have v1a3 : v1a.1 3 = nI rj := by rw [hv1a]; exact v13
      rw [g1, bd_s, i10, g2, bd_s, g3.2.2.2.2.2.2.2.2.2.2.2.2.2, if_pos (show nI 0 ≤ 0 by decide)]
      have mj : ∀ {x : Int32} {w : St}, pX7_number F 1 9 v1a = some (x, w) → pX7_readMore F (nI K) v1 = some ((), stf (sta w 2 (nI (43 + rj)) x) 3 (w.1 3 + 1)) := fun m => M_judge F k4 hj3 v1 _ v13 (by rw [← hv1a]; exact m)
      rcases chkT F (lo := 1) (hi := 9) u1 v1a (g5.fr.tp t1) g3a (by omega) (by omega) with ⟨a1, a2, a3, a4, a5⟩ | ⟨k, u2, w2, a1, a2, a3, a4, a5⟩
      · have a4' : chk F 1 9 u1 = some (1, u1) := a4
        have a5' : pX7_number F 1 9 v1a = bd (pX7_step F v1a) (fun (_ : Unit) (u5 : St) => some (nI vu1, u5)) := a5
        have g3' := g3a
        obtain ⟨j1, j2, j3, j4, j5, j20, j21, j22, j23, j13, j12, j11, j14, j9⟩ := g3a
        have u113 : u1.1 13 = nI rj := (g5.1 13 (by omega)).trans u13
        rw [a4', bd_s, i10, j23 a1, X_addJ F u1 u113 hj3, bd_s]
        obtain ⟨u2, hu2⟩ : ∃ u2, u2 = stf (sta (sta u1 46 (nI rj) (nI (K - 4))) 47 (nI rj) (nI vu1)) 13 (nI (rj + 1)) := ⟨_, rfl⟩
        have fX2 : FrX u u2 := by rw [hu2]; exact ((g5.fr.st (by omega) _ _).st (by omega) _ _).sf (by omega) _
        rw [← hu2]
        rcases next2 F hF u2 v1a (fX2.tp t1) (f1.tp t2) j3 (by rw [hu2, sf_n _ _ _ (by omega)]; exact j22) j11 j9 with ⟨t3', p3, e3, vu3, u3, v3, s1, s2, s3, s4, s5, s6⟩ | ⟨q, u3, v3, s1, s2, s3, s5, s6⟩
        · rw [s2, bd_s] at a5'
          have v33 : v3.1 3 = nI rj := (s6.1 3 (by omega)).trans v1a3
          rw [s1, bd_s, i10, mj a5', bd_s, v33, nI_s]
          have C2 : CtX 3 rc (rj + 1) (jdP R rj (K - 4) vu1) u2 := by
            rw [hu2]
            exact (t6.frj (fun i hi => g5.1 _ (by omega)) (fun i hi => by rw [g5.2])).judge B1 B2 q1 hj3
          have hTn : TR b n (jdP R rj (K - 4) vu1) rc (rj + 1) dt h5 h6 u3 (stf (sta v3 2 (nI (43 + rj)) (nI vu1)) 3 (nI (rj + 1))) := by
            refine ⟨(fX2.tr s5.fr).tp t1, (((f1.tr s6.fr).st _ _).sf (by omega) _).tp t2, ⟨q1, by omega, q3, fun z => by rw [jdP_lo R hj3 _ _ (by omega)]; exact q4 z⟩, t4.judge hj3 (by omega) ⟨a2, a3⟩ q1, t5.c (jdP_lo R hj3 _ _ (by omega)) B2 (fun k hk => jdP_lo R hj3 _ _ (by omega)), C2.frj (fun i hi => s5.1 _ (by omega)) (fun i hi => by rw [s5.2]), ⟨?_, ?_⟩, fun k hk => ?_, ?_, sf_k _ _ _, ?_, ?_, ?_⟩
            · rw [s5.1 18 (by omega), hu2, sf_n _ _ _ (by omega), sta_1, sta_1, g5.1 18 (by omega)]; exact t7
            · rw [s5.1 19 (by omega), hu2, sf_n _ _ _ (by omega), sta_1, sta_1, g5.1 19 (by omega)]; exact t8
            · show (sta v3 2 (nI (43 + rj)) (nI vu1)).2 2 k = _
              unfold jdP
              rw [sta_h _ _ (by omega)]
              refine puI ?_ _ Iff.rfl
              rw [s6.2, hv1a, sta_h _ _ (by omega)]
              refine puI ?_ _ Iff.rfl
              rw [g6.2, hv0]
              exact t9 k hk
            · exact (sf_n _ _ _ (by omega)).trans ((s6.1 2 (by omega)).trans (by rw [hv1a]; exact ((g6.1 2 (by omega)).trans (l0 2)).trans t10))
            · exact (sf_n _ _ _ (by omega)).trans ((s6.1 4 (by omega)).trans (by rw [hv1a]; exact ((g6.1 4 (by omega)).trans (l0 4)).trans t12))
            · exact (sf_n _ _ _ (by omega)).trans ((s6.1 5 (by omega)).trans (by rw [hv1a]; exact ((g6.1 5 (by omega)).trans (l0 5)).trans t13))
            · exact (sf_n _ _ _ (by omega)).trans ((s6.1 6 (by omega)).trans (by rw [hv1a]; exact ((g6.1 6 (by omega)).trans (l0 6)).trans t14))
          have hKn : Tok b n t3' p3 e3 vu3 u3 (stf (sta v3 2 (nI (43 + rj)) (nI vu1)) 3 (nI (rj + 1))) := by
            obtain ⟨r1, r2, r3, r4, r5, r20, r21, r22, r23, r13, r12, r11, r14, r9⟩ := s3
            exact ⟨r1, r2, r3, r4, r5, r20, r21, r22, r23, (sf_n _ _ _ (by omega)).trans r13, (sf_n _ _ _ (by omega)).trans r12, (sf_n _ _ _ (by omega)).trans r11, (sf_n _ _ _ (by omega)).trans r14, (sf_n _ _ _ (by omega)).trans r9⟩
          have hZn : Z0 (jdP R rj (K - 4) vu1) (2 * rc) := fun f f1 f2 => by rw [jdP_lo R hj3 _ _ (by omega)]; exact hZ f f1 f2
          exact (signOut F hF hTn hZn hKn (by have := s3.2.1; omega) (fX2.tr s5.fr) (((f1.tr s6.fr).st _ _).sf (by omega) _)).w
        · rw [s2, bd_s] at a5'
          rw [s1, bd_s, i00, mj a5', bd_s]
          exact Out.badT F (s3.m3 _ _ _) (fX2.tr s5.fr) (((f1.tr s6.fr).st _ _).sf (by omega) _)
      · have a1' : chk F 1 9 u1 = some (0, u2) := a1
        have a2' : pX7_number F 1 9 v1a = some (nI 1, w2) := a2
        rw [a1', bd_s, i00, mj a2', bd_s]
        exact Out.badT F (a3.m3 _ _ _) (g5.fr.tr a4) (((f1.tr a5).st _ _).sf (by omega) _)
    · rw [g1, bd_s, i00, bd_s, i00, g2, bd_s, if_neg g3.le]
      exact Out.bad g3 g5.fr (f0.tr g6.fr)
