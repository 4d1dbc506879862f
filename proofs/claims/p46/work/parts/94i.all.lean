section
/-! PURE: text: a judge is added -/
def jdP (R : Nat → Nat) (h c j : Nat) : Nat → Nat := pu (pu R (40 + h) c) (43 + h) j
theorem jdP_lo (R : Nat → Nat) {h : Nat} (hh : h < 3) (c j : Nat) {k : Nat} (hk : k < 40 ∨ 46 ≤ k) : jdP R h c j k = R k := by
  unfold jdP
  rw [pu_n _ (by omega), pu_n _ (by omega)]
theorem jdP_a (R : Nat → Nat) (h c j : Nat) {i : Nat} (hi : i < 3) : jdP R h c j (40 + i) = if i = h then c else R (40 + i) := by
  unfold jdP
  rw [pu_n _ (by omega)]
  by_cases q : i = h
  · rw [q, if_pos rfl, pu_s]
  · rw [if_neg q, pu_n _ (by omega)]
theorem jdP_b (R : Nat → Nat) {h : Nat} (hh : h < 3) (c j : Nat) {i : Nat} (hi : i < 3) : jdP R h c j (43 + i) = if i = h then j else R (43 + i) := by
  unfold jdP
  by_cases q : i = h
  · rw [q, if_pos rfl, pu_s]
  · rw [if_neg q, pu_n _ (by omega), pu_n _ (by omega)]
theorem X_addJ (F : Nat) {h : Nat} (u : St) (h13 : u.1 13 = nI h) (hh : h < 3) (x y : Int32) : pX0_addJudge F 3 x y u = some (1, stf (sta (sta u 46 (nI h) x) 47 (nI h) y) 13 (nI (h + 1))) := by
  have e : pX0_addJudge F 3 x y u = if (u.1 13) < 3 then gd (inb (u.1 13) 3) (vl (sta u 46 (u.1 13) x) (fun (u1 : St) => gd (inb (u1.1 13) 3) (vl (sta u1 47 (u1.1 13) y) (fun (u2 : St) => vl (stf u2 13 ((u2.1 13) + 1)) (fun (u3 : St) => some (1, u3)))))) else some (0, u) := rfl
  rw [e, h13, if_pos (by rw [L3]; exact ylt hh (by omega)), gd_i (by omega) (by omega), vl_e, sta_1, h13, gd_i (by omega) (by omega), vl_e, vl_e, sta_1, sta_1, h13, nI_s]
theorem CtX.judge {c0 jn x y : Nat} {R : Nat → Nat} {u : St} (hC : CtX 3 c0 jn R u) (b : R 46 ≤ 4) (b2 : R 55 ≤ 6) (hc : c0 ≤ 4) (hj : jn < 3) : CtX 3 c0 (jn + 1) (jdP R jn x y) (stf (sta (sta u 46 (nI jn) (nI x)) 47 (nI jn) (nI y)) 13 (nI (jn + 1))) := by
  obtain ⟨h1, h2, h3, h4, h5, h6, h7, h8, h9⟩ := hC
  have a : ∀ k, k ≠ 46 → k ≠ 47 → (stf (sta (sta u 46 (nI jn) (nI x)) 47 (nI jn) (nI y)) 13 (nI (jn + 1))).2 k = u.2 k := fun k k1 k2 => by
    show (sta (sta u 46 (nI jn) (nI x)) 47 (nI jn) (nI y)).2 k = u.2 k
    rw [sta_m _ _ _ k2, sta_m _ _ _ k1]
  have lo : ∀ {k : Nat}, (k < 40 ∨ 46 ≤ k) → jdP R jn x y k = R k := fun hk => jdP_lo R hj x y hk
  refine ⟨(sf_n _ _ _ (by omega)).trans h1, sf_k _ _ _, ((sf_n _ _ _ (by omega)).trans h3).trans (by rw [lo (by omega)]), ((sf_n _ _ _ (by omega)).trans h4).trans (by rw [lo (by omega)]), fun f hf => ?_, fun i hi => ?_, fun i hi => ?_, fun i hi => ?_, fun i hi => ?_⟩
  · rw [a _ (by omega) (by omega), a _ (by omega) (by omega), a _ (by omega) (by omega), lo (by omega), lo (by omega), lo (by omega)]
    exact h5 f hf
  · rw [a _ (by omega) (by omega), a _ (by omega) (by omega), a _ (by omega) (by omega), a _ (by omega) (by omega), lo (by omega), lo (by omega), lo (by omega), lo (by omega)]
    exact h6 i hi
  · rw [jdP_a R jn x y (by omega), jdP_b R hj x y (by omega)]
    have w1 : (stf (sta (sta u 46 (nI jn) (nI x)) 47 (nI jn) (nI y)) 13 (nI (jn + 1))).2 46 i = if i = jn then nI x else u.2 46 i := by
      show (sta (sta u 46 (nI jn) (nI x)) 47 (nI jn) (nI y)).2 46 i = _
      rw [sta_m _ _ _ (by omega), sta_h _ _ (by omega)]
    have w2 : (stf (sta (sta u 46 (nI jn) (nI x)) 47 (nI jn) (nI y)) 13 (nI (jn + 1))).2 47 i = if i = jn then nI y else u.2 47 i := by
      show (sta (sta u 46 (nI jn) (nI x)) 47 (nI jn) (nI y)).2 47 i = _
      rw [sta_h _ _ (by omega), sta_m _ _ _ (by omega)]
    refine ⟨w1.trans ?_, w2.trans ?_⟩
    · by_cases q : i = jn
      · rw [if_pos q, if_pos q]
      · rw [if_neg q, if_neg q]
        exact (h7 i (by omega)).1
    · by_cases q : i = jn
      · rw [if_pos q, if_pos q]
      · rw [if_neg q, if_neg q]
        exact (h7 i (by omega)).2
  · rw [lo (by omega)] at hi
    rw [a _ (by omega) (by omega), a _ (by omega) (by omega), lo (by omega), lo (by omega)]
    exact h8 i hi
  · rw [lo (by omega)] at hi
    rw [a _ (by omega) (by omega), a _ (by omega) (by omega), lo (by omega), lo (by omega)]
    exact h9 i hi
theorem BD.judge {R : Nat → Nat} {rc rj x y : Nat} (hB : BD R rc rj) (hj : rj < 3) (hx : x ≤ 3) (hy : 1 ≤ y ∧ y ≤ 9) (hc : rc ≤ 4) : BD (jdP R rj x y) rc (rj + 1) := by
  obtain ⟨b1, b2, b3, b4, b5, b6, b7⟩ := hB
  have lo : ∀ {k : Nat}, (k < 40 ∨ 46 ≤ k) → jdP R rj x y k = R k := fun hk => jdP_lo R hj x y hk
  refine ⟨by rw [lo (by omega)]; exact b1, by rw [lo (by omega)]; exact b2, fun f hf => ?_, fun k k1 k2 => ?_, fun i hi => ?_, fun i hi => ?_, fun i hi => ?_⟩
  · rw [lo (by omega), lo (by omega), lo (by omega)]
    exact b3 f hf
  · rw [lo (by omega)]
    exact b4 k k1 k2
  · rw [jdP_a R rj x y (by omega), jdP_b R hj x y (by omega)]
    by_cases q : i = rj
    · rw [if_pos q, if_pos q]
      exact ⟨hx, hy⟩
    · rw [if_neg q, if_neg q]
      exact b5 i (by omega)
  · rw [lo (by omega)] at hi
    rw [lo (by omega), lo (by omega)]
    exact b6 i hi
  · rw [lo (by omega)] at hi
    rw [lo (by omega), lo (by omega)]
    exact b7 i hi
theorem HI.c {R R' : Nat → Nat} {h5 h6 : Nat} (hI : HI R h5 h6) (e : R' 55 = R 55) (b : R 55 ≤ 6) (e2 : ∀ k, 56 ≤ k → R' k = R k) : HI R' h5 h6 := by
  obtain ⟨b1, b2, b3, b4, b5⟩ := hI
  refine ⟨b1, b2, fun i hi => ?_, ?_, ?_⟩
  · rw [e] at hi
    rw [e2 _ (by omega), e2 _ (by omega)]
    exact b3 i hi
  · rcases b4 with z | ⟨i, z1, z2⟩
    · exact Or.inl z
    · exact Or.inr ⟨i, by omega, by rw [e2 _ (by omega)]; exact z2⟩
  · rcases b5 with z | ⟨i, z1, z2⟩
    · exact Or.inl z
    · exact Or.inr ⟨i, by omega, by rw [e2 _ (by omega)]; exact z2⟩
theorem Bad.m3 {k q : Nat} {u w : St} (h : Bad k q u w) (i x y : Int32) : Bad k q u (stf (sta w 2 i x) 3 y) := by
  obtain ⟨x1, x2, x3, x4, x5, x6, x7⟩ := h
  exact ⟨x1, x2, x3, x4, x5, (sf_n _ _ _ (by omega)).trans x6, (sf_n _ _ _ (by omega)).trans x7⟩
theorem Out.bad {b : Nat → Nat} {n p k q : Nat} {u v u2 w2 : St} (h : Bad k q u2 w2) (fX : FrX u u2) (fM : FrM v w2) : Out b n p (some (0, u2)) (some ((), w2)) u v := Or.inr ⟨k, q, u2, w2, rfl, rfl, h, fX, fM⟩
theorem Out.badT (F : Nat) {b : Nat → Nat} {n p k q : Nat} {u v u2 w2 : St} (h : Bad k q u2 w2) (fX : FrX u u2) (fM : FrM v w2) : Out b n p (some (0, u2)) (mtail F w2) u v := by
  rw [mtailB F w2 h.2.2.2.2.2.1 h.1 h.2.1]
  exact Out.bad h fX fM
theorem Bad.le {k q : Nat} {u w : St} (h : Bad k q u w) : ¬ w.1 9 ≤ 0 := by
  rw [h.2.2.2.2.2.1, L0]
  exact nle h.1 (by have := h.2.1; omega)
theorem M_judge (F : Nat) {K rj : Nat} (hK : 4 ≤ K ∧ K < 8) (hj : rj < 3) (v w : St) {x : Int32} (h3 : v.1 3 = nI rj) (m : pX7_number F 1 9 (sta v 2 (nI (40 + rj)) (nI (K - 4))) = some (x, w)) : pX7_readMore F (nI K) v = some ((), stf (sta w 2 (nI (43 + rj)) x) 3 (w.1 3 + 1)) := by
  unfold pX7_readMore
  rw [L8, ifeq (by omega) (by omega), if_neg (by omega), L9, ifeq (by omega) (by omega), if_neg (by omega), L10, ifeq (by omega) (by omega), if_neg (by omega), h3, L40, nI_add, gd_i (by omega) (by omega), vl_e, L4, subI (by omega), ← L9, m, bd_s, sta_1, h3, L43, nI_add, gd_i (by omega) (by omega), vl_e, vl_e, sta_1]
theorem judgeT (F : Nat) (hF : 200 ≤ F) {b : Nat → Nat} {n K : Nat} {R : Nat → Nat} {rc rj dt h5 h6 t p e vu : Nat} {u v : St} (hT : TR b n R rc rj dt h5 h6 u v) (hZ : Z0 R (2 * rc)) (hK : Tok b n t p e vu u v) (hp : p < e) (hm : pX7_nameHere F v = some (if K = 11 then -4 else nI K, v)) (k4 : 4 ≤ K ∧ K < 8) : Out b n p (pX2_takesJudge F (nI (K - 4)) u) (pX7_readLine F v) u v := by
  have hK' := hK
  have hT' := hT
  obtain ⟨k1, k2, k3, k4', k5, k20, k21, k22, k23, k13, k12, k11, k14, k9⟩ := hK
  obtain ⟨t1, t2, ⟨q1, q2, q3, q4⟩, t4, t5, t6, ⟨t7, t8⟩, t9, t10, t11, t12, t13, t14⟩ := hT
  have n1 := t1.1
  have u13 : u.1 13 = nI rj := t6.2.1
  have B1 := t4.1
  have B2 := t4.2.1
  unfold pX2_takesJudge
  rw [u13]
  by_cases hj : rj = 3
  · rw [if_neg (by rw [L3]; exact nlt (by omega) (by omega)), M_lineF F v hm (by omega) k9 k12 t10 q1 t11 q2 t12 q3 (t9 46 (by omega)) B1 (by omega)]
    unfold pX2_fails
    rw [vl_e, bd_s, z01_0, gd_true]
    exact Out.bad (k := 5) (q := p) ⟨by omega, by omega, by omega, Or.inl (by rw [sf_k]; rfl), by rw [sf_n _ _ _ (by omega)]; exact k21, by rw [sf_n _ _ _ (by omega), sf_n _ _ _ (by omega), sf_k]; rfl, by rw [sf_n _ _ _ (by omega), sf_k]⟩ (FrX.rf.sf (by omega) _) (((FrM.rf.sf (by omega) _).sf (by omega) _).sf (by omega) _)
  · have hj3 : rj < 3 := by omega
    rw [if_pos (by rw [L3]; exact ylt hj3 (by omega)), M_lineG F v hm (by omega) t10 q1 t11 q2 t12 q3 (t9 46 (by omega)) B1 (by omega) (by omega) (by omega) (by omega), if_neg (show ¬ K = 10 by omega), X_rnum]
    obtain ⟨v0, hv0⟩ : ∃ v0, v0 = stf v 4 (nI dt) := ⟨_, rfl⟩
    have f0 : FrM v v0 := by rw [hv0]; exact FrM.rf.sf (by omega) _
    have l0 : ∀ k, v0.1 k = v.1 k := fun k => by
      rw [hv0, stf_1]
      by_cases z : k = 4
      · rw [if_pos z, z, t12]
      · rw [if_neg z]
    rw [← hv0]
    rcases next2 F hF u v0 t1 (f0.tp t2) k3 k22 ((l0 11).trans k11) ((l0 9).trans k9) with ⟨t1', p1, e1, vu1, u1, v1, g1, g2, g3, g4, g5, g6⟩ | ⟨q, u1, v1, g1, g2, g3, g5, g6⟩
    · obtain ⟨v1a, hv1a⟩ : ∃ v1a, v1a = sta v1 2 (nI (40 + rj)) (nI (K - 4)) := ⟨_, rfl⟩
      have g3a : Tok b n t1' p1 e1 vu1 u1 v1a := by rw [hv1a]; exact g3
      have f1 : FrM v v1a := by rw [hv1a]; exact (f0.tr g6.fr).st _ _
      have v13 : v1.1 3 = nI rj := ((g6.1 3 (by omega)).trans (l0 3)).trans t11
      have v1a3 : v1a.1 3 = nI rj := by rw [hv1a]; exact v13
      rw [g1, bd_s, i10, g2, bd_s, g3.2.2.2.2.2.2.2.2.2.2.2.2.2, if_pos (show nI 0 ≤ 0 by decide)]
      have mj : ∀ {x : Int32} {w : St}, pX7_number F 1 9 v1a = some (x, w) → pX7_readMore F (nI K) v1 = some ((), stf (sta w 2 (nI (43 + rj)) x) 3 (w.1 3 + 1)) := fun m => M_judge F k4 hj3 v1 _ v13 (by rw [← hv1a]; exact m)
      rcases chkT F (lo := 1) (hi := 9) u1 v1a (g5.fr.tp t1) g3a (by omega) (by omega) with ⟨a1, a2, a3, a4, a5⟩ | ⟨k, u2, w2, a1, a2, a3, a4, a5⟩
      · have a4' : chk F 1 9 u1 = some (1, u1) := a4
        have a5' : pX7_number F 1 9 v1a = bd (pX7_step F v1a) (fun (_ : Unit) (u5 : St) => some (nI vu1, u5)) := a5
        have g3' := g3a
        obtain ⟨j1, j2, j3, j4, j5, j20, j21, j22, j23, j13, j12, j11, j14, j9⟩ := g3a
        have u113 : u1.1 13 = nI rj := (g5.1 13 (by omega)).trans u13
        rw [a4', bd_s, i10, j23 a1, X_addJ F u1 u113 hj3, bd_s]
        obtain ⟨u2, hu2⟩ : ∃ u2, u2 = stf (sta (sta u1 46 (nI rj) (nI (K - 4))) 47 (nI rj) (nI vu1)) 13 (nI (rj + 1)) := ⟨_, rfl⟩
        have fX2 : FrX u u2 := by rw [hu2]; exact ((g5.fr.st (by omega) _ _).st (by omega) _ _).sf (by omega) _
        rw [← hu2]
        rcases next2 F hF u2 v1a (fX2.tp t1) (f1.tp t2) j3 (by rw [hu2, sf_n _ _ _ (by omega)]; exact j22) j11 j9 with ⟨t3', p3, e3, vu3, u3, v3, s1, s2, s3, s4, s5, s6⟩ | ⟨q, u3, v3, s1, s2, s3, s5, s6⟩
        · rw [s2, bd_s] at a5'
          have v33 : v3.1 3 = nI rj := (s6.1 3 (by omega)).trans v1a3
          rw [s1, bd_s, i10, mj a5', bd_s, v33, nI_s]
          have C2 : CtX 3 rc (rj + 1) (jdP R rj (K - 4) vu1) u2 := by
            rw [hu2]
            exact (t6.frj (fun i hi => g5.1 _ (by omega)) (fun i hi => by rw [g5.2])).judge B1 B2 q1 hj3
          have hTn : TR b n (jdP R rj (K - 4) vu1) rc (rj + 1) dt h5 h6 u3 (stf (sta v3 2 (nI (43 + rj)) (nI vu1)) 3 (nI (rj + 1))) := by
            refine ⟨(fX2.tr s5.fr).tp t1, (((f1.tr s6.fr).st _ _).sf (by omega) _).tp t2, ⟨q1, by omega, q3, fun z => by rw [jdP_lo R hj3 _ _ (by omega)]; exact q4 z⟩, t4.judge hj3 (by omega) ⟨a2, a3⟩ q1, t5.c (jdP_lo R hj3 _ _ (by omega)) B2 (fun k hk => jdP_lo R hj3 _ _ (by omega)), C2.frj (fun i hi => s5.1 _ (by omega)) (fun i hi => by rw [s5.2]), ⟨?_, ?_⟩, fun k hk => ?_, ?_, sf_k _ _ _, ?_, ?_, ?_⟩
            · rw [s5.1 18 (by omega), hu2, sf_n _ _ _ (by omega), sta_1, sta_1, g5.1 18 (by omega)]; exact t7
            · rw [s5.1 19 (by omega), hu2, sf_n _ _ _ (by omega), sta_1, sta_1, g5.1 19 (by omega)]; exact t8
            · show (sta v3 2 (nI (43 + rj)) (nI vu1)).2 2 k = _
              unfold jdP
              rw [sta_h _ _ (by omega)]
              refine puI ?_ _ Iff.rfl
              rw [s6.2, hv1a, sta_h _ _ (by omega)]
              refine puI ?_ _ Iff.rfl
              rw [g6.2, hv0]
              exact t9 k hk
            · exact (sf_n _ _ _ (by omega)).trans ((s6.1 2 (by omega)).trans (by rw [hv1a]; exact ((g6.1 2 (by omega)).trans (l0 2)).trans t10))
            · exact (sf_n _ _ _ (by omega)).trans ((s6.1 4 (by omega)).trans (by rw [hv1a]; exact ((g6.1 4 (by omega)).trans (l0 4)).trans t12))
            · exact (sf_n _ _ _ (by omega)).trans ((s6.1 5 (by omega)).trans (by rw [hv1a]; exact ((g6.1 5 (by omega)).trans (l0 5)).trans t13))
            · exact (sf_n _ _ _ (by omega)).trans ((s6.1 6 (by omega)).trans (by rw [hv1a]; exact ((g6.1 6 (by omega)).trans (l0 6)).trans t14))
          have hKn : Tok b n t3' p3 e3 vu3 u3 (stf (sta v3 2 (nI (43 + rj)) (nI vu1)) 3 (nI (rj + 1))) := by
            obtain ⟨r1, r2, r3, r4, r5, r20, r21, r22, r23, r13, r12, r11, r14, r9⟩ := s3
            exact ⟨r1, r2, r3, r4, r5, r20, r21, r22, r23, (sf_n _ _ _ (by omega)).trans r13, (sf_n _ _ _ (by omega)).trans r12, (sf_n _ _ _ (by omega)).trans r11, (sf_n _ _ _ (by omega)).trans r14, (sf_n _ _ _ (by omega)).trans r9⟩
          have hZn : Z0 (jdP R rj (K - 4) vu1) (2 * rc) := fun f f1 f2 => by rw [jdP_lo R hj3 _ _ (by omega)]; exact hZ f f1 f2
          exact (signOut F hF hTn hZn hKn (by have := s3.2.1; omega) (fX2.tr s5.fr) (((f1.tr s6.fr).st _ _).sf (by omega) _)).w
        · rw [s2, bd_s] at a5'
          rw [s1, bd_s, i00, mj a5', bd_s]
          exact Out.badT F (s3.m3 _ _ _) (fX2.tr s5.fr) (((f1.tr s6.fr).st _ _).sf (by omega) _)
      · have a1' : chk F 1 9 u1 = some (0, u2) := a1
        have a2' : pX7_number F 1 9 v1a = some (nI 1, w2) := a2
        rw [a1', bd_s, i00, mj a2', bd_s]
        exact Out.badT F (a3.m3 _ _ _) (g5.fr.tr a4) (((f1.tr a5).st _ _).sf (by omega) _)
    · rw [g1, bd_s, i00, bd_s, i00, g2, bd_s, if_neg g3.le]
      exact Out.bad g3 g5.fr (f0.tr g6.fr)
end
section
/-! PURE: text: a draught is added -/
def drP (R : Nat → Nat) (h c j : Nat) : Nat → Nat := pu (pu (pu R (47 + h) c) (51 + h) j) 46 (h + 1)
theorem drP_lo (R : Nat → Nat) {h : Nat} (hh : h < 4) (c j : Nat) {k : Nat} (hk : k < 46 ∨ 55 ≤ k) : drP R h c j k = R k := by
  unfold drP
  rw [pu_n _ (by omega), pu_n _ (by omega), pu_n _ (by omega)]
theorem drP_46 (R : Nat → Nat) (h c j : Nat) : drP R h c j 46 = h + 1 := pu_s _ _ _
theorem drP_a (R : Nat → Nat) (h c j : Nat) {i : Nat} (hi : i < 4) : drP R h c j (47 + i) = if i = h then c else R (47 + i) := by
  unfold drP
  rw [pu_n _ (by omega), pu_n _ (by omega)]
  by_cases q : i = h
  · rw [q, if_pos rfl, pu_s]
  · rw [if_neg q, pu_n _ (by omega)]
theorem drP_b (R : Nat → Nat) {h : Nat} (hh : h < 4) (c j : Nat) {i : Nat} (hi : i < 4) : drP R h c j (51 + i) = if i = h then j else R (51 + i) := by
  unfold drP
  rw [pu_n _ (by omega)]
  by_cases q : i = h
  · rw [q, if_pos rfl, pu_s]
  · rw [if_neg q, pu_n _ (by omega), pu_n _ (by omega)]
theorem X_addD (F : Nat) {h : Nat} (u : St) (h14 : u.1 14 = nI h) (hh : h < 4) (x y : Int32) : pX0_addDraught F 3 x y u = some (1, stf (sta (sta u 48 (nI h) x) 49 (nI h) y) 14 (nI (h + 1))) := by
  have e : pX0_addDraught F 3 x y u = if (u.1 14) < 4 then gd (inb (u.1 14) 4) (vl (sta u 48 (u.1 14) x) (fun (u1 : St) => gd (inb (u1.1 14) 4) (vl (sta u1 49 (u1.1 14) y) (fun (u2 : St) => vl (stf u2 14 ((u2.1 14) + 1)) (fun (u3 : St) => some (1, u3)))))) else some (0, u) := rfl
  rw [e, h14, if_pos (by rw [L4]; exact ylt hh (by omega)), gd_i (by omega) (by omega), vl_e, sta_1, h14, gd_i (by omega) (by omega), vl_e, vl_e, sta_1, sta_1, h14, nI_s]
theorem CtX.draught {c0 jn d x y : Nat} {R : Nat → Nat} {u : St} (hC : CtX 3 c0 jn R u) (hd : R 46 = d) (b : d < 4) (b2 : R 55 ≤ 6) (hc : c0 ≤ 4) (hj : jn ≤ 3) : CtX 3 c0 jn (drP R d x y) (stf (sta (sta u 48 (nI d) (nI x)) 49 (nI d) (nI y)) 14 (nI (d + 1))) := by
  obtain ⟨h1, h2, h3, h4, h5, h6, h7, h8, h9⟩ := hC
  have a : ∀ k, k ≠ 48 → k ≠ 49 → (stf (sta (sta u 48 (nI d) (nI x)) 49 (nI d) (nI y)) 14 (nI (d + 1))).2 k = u.2 k := fun k k1 k2 => by
    show (sta (sta u 48 (nI d) (nI x)) 49 (nI d) (nI y)).2 k = u.2 k
    rw [sta_m _ _ _ k2, sta_m _ _ _ k1]
  have lo : ∀ {k : Nat}, (k < 46 ∨ 55 ≤ k) → drP R d x y k = R k := fun hk => drP_lo R b x y hk
  refine ⟨(sf_n _ _ _ (by omega)).trans h1, (sf_n _ _ _ (by omega)).trans h2, (sf_k _ _ _).trans (by rw [drP_46]), ((sf_n _ _ _ (by omega)).trans h4).trans (by rw [lo (by omega)]), fun f hf => ?_, fun i hi => ?_, fun i hi => ?_, fun i hi => ?_, fun i hi => ?_⟩
  · rw [a _ (by omega) (by omega), a _ (by omega) (by omega), a _ (by omega) (by omega), lo (by omega), lo (by omega), lo (by omega)]
    exact h5 f hf
  · rw [a _ (by omega) (by omega), a _ (by omega) (by omega), a _ (by omega) (by omega), a _ (by omega) (by omega), lo (by omega), lo (by omega), lo (by omega), lo (by omega)]
    exact h6 i hi
  · rw [a _ (by omega) (by omega), a _ (by omega) (by omega), lo (by omega), lo (by omega)]
    exact h7 i hi
  · rw [drP_46] at hi
    rw [drP_a R d x y (by omega), drP_b R b x y (by omega)]
    have w1 : (stf (sta (sta u 48 (nI d) (nI x)) 49 (nI d) (nI y)) 14 (nI (d + 1))).2 48 i = if i = d then nI x else u.2 48 i := by
      show (sta (sta u 48 (nI d) (nI x)) 49 (nI d) (nI y)).2 48 i = _
      rw [sta_m _ _ _ (by omega), sta_h _ _ (by omega)]
    have w2 : (stf (sta (sta u 48 (nI d) (nI x)) 49 (nI d) (nI y)) 14 (nI (d + 1))).2 49 i = if i = d then nI y else u.2 49 i := by
      show (sta (sta u 48 (nI d) (nI x)) 49 (nI d) (nI y)).2 49 i = _
      rw [sta_h _ _ (by omega), sta_m _ _ _ (by omega)]
    refine ⟨w1.trans ?_, w2.trans ?_⟩
    · by_cases q : i = d
      · rw [if_pos q, if_pos q]
      · rw [if_neg q, if_neg q]
        exact (h8 i (by omega)).1
    · by_cases q : i = d
      · rw [if_pos q, if_pos q]
      · rw [if_neg q, if_neg q]
        exact (h8 i (by omega)).2
  · rw [lo (by omega)] at hi
    rw [a _ (by omega) (by omega), a _ (by omega) (by omega), lo (by omega), lo (by omega)]
    exact h9 i hi
theorem BD.draught {R : Nat → Nat} {rc rj d x y : Nat} (hB : BD R rc rj) (hd : R 46 = d) (b : d < 4) (hx : x ≤ 20) (hy : 1 ≤ y ∧ y ≤ 9) (hc : rc ≤ 4) (hj : rj ≤ 3) : BD (drP R d x y) rc rj := by
  obtain ⟨b1, b2, b3, b4, b5, b6, b7⟩ := hB
  have lo : ∀ {k : Nat}, (k < 46 ∨ 55 ≤ k) → drP R d x y k = R k := fun hk => drP_lo R b x y hk
  refine ⟨by rw [drP_46]; omega, by rw [lo (by omega)]; exact b2, fun f hf => ?_, fun k k1 k2 => ?_, fun i hi => ?_, fun i hi => ?_, fun i hi => ?_⟩
  · rw [lo (by omega), lo (by omega), lo (by omega)]
    exact b3 f hf
  · rw [lo (by omega)]
    exact b4 k k1 k2
  · rw [lo (by omega), lo (by omega)]
    exact b5 i hi
  · rw [drP_46] at hi
    rw [drP_a R d x y (by omega), drP_b R b x y (by omega)]
    by_cases q : i = d
    · rw [if_pos q, if_pos q]
      exact ⟨hx, hy⟩
    · rw [if_neg q, if_neg q]
      exact b6 i (by omega)
  · rw [lo (by omega)] at hi
    rw [lo (by omega), lo (by omega)]
    exact b7 i hi
def drW (w : St) (d : Nat) (x : Int32) : St := sta (sta w 2 (nI (51 + d)) x) 2 (nI 46) (nI (d + 1))
theorem Bad.dr {k q : Nat} {u w : St} (h : Bad k q u w) (d : Nat) (x : Int32) : Bad k q u (drW w d x) := h
theorem drW_f {v w : St} (f : FrM v w) (d : Nat) (x : Int32) : FrM v (drW w d x) := ((f.st _ _).st _ _)
theorem M_draught (F : Nat) {d : Nat} (hd : d < 4) (v w1 w2 : St) {x1 x2 : Int32} (h46 : v.2 2 46 = nI d) (m1 : pX7_number F 0 20 v = some (x1, w1)) (e1 : w1.2 = v.2) (m2 : pX7_number F 1 9 (sta w1 2 (nI (47 + d)) x1) = some (x2, w2)) (e2 : w2.2 = (sta w1 2 (nI (47 + d)) x1).2) : pX7_readMore F (nI 9) v = some ((), drW w2 d x2) := by
  have t46 : Int32.toNatClampNeg 46 = 46 := by decide +kernel
  have g46 : inb 46 68 = true := by decide +kernel
  have z1 : (sta w1 2 (nI (47 + d)) x1).2 2 46 = nI d := by rw [sta_h _ _ (by omega), if_neg (by omega), e1, h46]
  have z2 : (sta w2 2 (nI (51 + d)) x2).2 2 46 = nI d := by rw [sta_h _ _ (by omega), if_neg (by omega), e2, z1]
  unfold pX7_readMore
  rw [L8, ifeq (by omega) (by omega), if_neg (by omega), show (if nI 9 = 9 then (_ : Option (Unit × St)) else _) = _ from if_pos rfl, g46, gd_true, m1, bd_s, t46, h46, L47, nI_add, gd_i (by omega) (by omega), vl_e, gd_true, m2, bd_s, z1, L51, nI_add, gd_i (by omega) (by omega), vl_e, gd_true, gd_true, z2, vl_e, nI_s, L46]
  rfl
end
section
/-! PURE: text: the draught's line -/
theorem draughtT (F : Nat) (hF : 200 ≤ F) {b : Nat → Nat} {n K : Nat} {R : Nat → Nat} {rc rj dt h5 h6 t p e vu : Nat} {u v : St} (hT : TR b n R rc rj dt h5 h6 u v) (hZ : Z0 R (2 * rc)) (hK : Tok b n t p e vu u v) (hp : p < e) (hm : pX7_nameHere F v = some (if K = 11 then -4 else nI K, v)) (k4 : K = 9) : Out b n p (pX2_takesDraught F u) (pX7_readLine F v) u v := by
  have hK' := hK
  have hT' := hT
  obtain ⟨k1, k2, k3, k4', k5, k20, k21, k22, k23, k13, k12, k11, k14, k9⟩ := hK
  obtain ⟨t1, t2, ⟨q1, q2, q3, q4⟩, t4, t5, t6, ⟨t7, t8⟩, t9, t10, t11, t12, t13, t14⟩ := hT
  have n1 := t1.1
  obtain ⟨d, hd⟩ : ∃ d, d = R 46 := ⟨_, rfl⟩
  have u14 : u.1 14 = nI d := by rw [hd]; exact t6.2.2.1
  have B1 := t4.1
  have B2 := t4.2.1
  unfold pX2_takesDraught
  rw [u14]
  by_cases hj : d = 4
  · rw [if_neg (by rw [L4]; exact nlt (by omega) (by omega)), M_lineF F v hm (by omega) k9 k12 t10 q1 t11 q2 t12 q3 (t9 46 (by omega)) B1 (by omega)]
    unfold pX2_fails
    rw [vl_e, bd_s, z01_0, gd_true]
    exact Out.bad (k := 5) (q := p) ⟨by omega, by omega, by omega, Or.inl (by rw [sf_k]; rfl), by rw [sf_n _ _ _ (by omega)]; exact k21, by rw [sf_n _ _ _ (by omega), sf_n _ _ _ (by omega), sf_k]; rfl, by rw [sf_n _ _ _ (by omega), sf_k]⟩ (FrX.rf.sf (by omega) _) (((FrM.rf.sf (by omega) _).sf (by omega) _).sf (by omega) _)
  · have hd4 : d < 4 := by omega
    rw [if_pos (by rw [L4]; exact ylt hd4 (by omega)), M_lineG F v hm (by omega) t10 q1 t11 q2 t12 q3 (t9 46 (by omega)) B1 (by omega) (by omega) (by omega) (by omega), if_neg (show ¬ K = 10 by omega), X_rnum, k4]
    obtain ⟨v0, hv0⟩ : ∃ v0, v0 = stf v 4 (nI dt) := ⟨_, rfl⟩
    have f0 : FrM v v0 := by rw [hv0]; exact FrM.rf.sf (by omega) _
    have l0 : ∀ k, v0.1 k = v.1 k := fun k => by
      rw [hv0, stf_1]
      by_cases z : k = 4
      · rw [if_pos z, z, t12]
      · rw [if_neg z]
    have l2 : v0.2 = v.2 := by rw [hv0]; rfl
    rw [← hv0]
    rcases next2 F hF u v0 t1 (f0.tp t2) k3 k22 ((l0 11).trans k11) ((l0 9).trans k9) with ⟨t1', p1, e1, vu1, u1, v1, g1, g2, g3, g4, g5, g6⟩ | ⟨q, u1, v1, g1, g2, g3, g5, g6⟩
    · have f1 : FrM v v1 := f0.tr g6.fr
      have v146 : v1.2 2 46 = nI d := by rw [g6.2, l2, hd]; exact t9 46 (by omega)
      rw [g1, bd_s, i10, g2, bd_s, g3.2.2.2.2.2.2.2.2.2.2.2.2.2, if_pos (show nI 0 ≤ 0 by decide)]
      rcases chkT F (lo := 0) (hi := 20) u1 v1 (g5.fr.tp t1) g3 (by omega) (by omega) with ⟨a1, a2, a3, a4, a5⟩ | ⟨k, u2, w2, a1, a2, a3, a4, a5⟩
      · have a4' : chk F 0 20 u1 = some (1, u1) := a4
        have a5' : pX7_number F 0 20 v1 = bd (pX7_step F v1) (fun (_ : Unit) (u5 : St) => some (nI vu1, u5)) := a5
        have g3' := g3
        obtain ⟨j1, j2, j3, j4, j5, j20, j21, j22, j23, j13, j12, j11, j14, j9⟩ := g3
        rw [a4', bd_s, i10, vl_e, j23 a1, X_rnum]
        rcases next2 F hF u1 v1 (g5.fr.tp t1) (f1.tp t2) j3 j22 j11 j9 with ⟨t2', p2, e2, vu2, u2, v2, r1, r2, r3, r4, r5, r6⟩ | ⟨q, u2, v2, r1, r2, r3, r5, r6⟩
        · rw [r2, bd_s] at a5'
          obtain ⟨v2a, hv2a⟩ : ∃ v2a, v2a = sta v2 2 (nI (47 + d)) (nI vu1) := ⟨_, rfl⟩
          have r3a : Tok b n t2' p2 e2 vu2 u2 v2a := by rw [hv2a]; exact r3
          have f2 : FrM v v2a := by rw [hv2a]; exact (f1.tr r6.fr).st _ _
          have md : ∀ {x : Int32} {w : St}, pX7_number F 1 9 v2a = some (x, w) → w.2 = v2a.2 → pX7_readMore F (nI 9) v1 = some ((), drW w d x) := fun m m2 => M_draught F hd4 v1 v2 _ v146 a5' r6.2 (by rw [← hv2a]; exact m) (by rw [← hv2a]; exact m2)
          rw [r1, bd_s, i10]
          have T2 : TpX b n u2 := (g5.fr.tr r5.fr).tp t1
          rcases chkT F (lo := 1) (hi := 9) u2 v2a T2 r3a (by omega) (by omega) with ⟨c1, c2, c3, c4, c5⟩ | ⟨k, u3, w3, c1, c2, c3, c4, c5⟩
          · have c4' : chk F 1 9 u2 = some (1, u2) := c4
            have c5' : pX7_number F 1 9 v2a = bd (pX7_step F v2a) (fun (_ : Unit) (u5 : St) => some (nI vu2, u5)) := c5
            obtain ⟨i1, i2, i3, i4, i5, i20, i21, i22, i23, i13, i12, i11, i14, i9⟩ := r3a
            have u214 : u2.1 14 = nI d := ((r5.1 14 (by omega)).trans (g5.1 14 (by omega))).trans u14
            rw [c4', bd_s, i10, i23 c1, X_addD F u2 u214 hd4, bd_s]
            obtain ⟨u3, hu3⟩ : ∃ u3, u3 = stf (sta (sta u2 48 (nI d) (nI vu1)) 49 (nI d) (nI vu2)) 14 (nI (d + 1)) := ⟨_, rfl⟩
            have fX3 : FrX u u3 := by rw [hu3]; exact (((g5.fr.tr r5.fr).st (by omega) _ _).st (by omega) _ _).sf (by omega) _
            rw [← hu3]
            rcases next2 F hF u3 v2a (fX3.tp t1) (f2.tp t2) i3 (by rw [hu3, sf_n _ _ _ (by omega)]; exact i22) i11 i9 with ⟨t4', p4, e4, vu4, u4, v4, s1, s2, s3, s4, s5, s6⟩ | ⟨q, u4, v4, s1, s2, s3, s5, s6⟩
            · rw [s2, bd_s] at c5'
              rw [s1, bd_s, i10, md c5' s6.2, bd_s]
              have C3 : CtX 3 rc rj (drP R d vu1 vu2) u3 := by
                rw [hu3]
                exact (t6.frj (fun i hi => (r5.1 _ (by omega)).trans (g5.1 _ (by omega))) (fun i hi => by rw [r5.2, g5.2])).draught hd.symm hd4 B2 q1 q2
              have lw : ∀ k, k < 11 → (drW v4 d (nI vu2)).1 k = v.1 k := fun k hk => by
                show v4.1 k = v.1 k
                rw [s6.1 k (by omega), hv2a, sta_1, r6.1 k (by omega), g6.1 k (by omega), l0]
              have hTn : TR b n (drP R d vu1 vu2) rc rj dt h5 h6 u4 (drW v4 d (nI vu2)) := by
                refine ⟨(fX3.tr s5.fr).tp t1, (drW_f (f2.tr s6.fr) _ _).tp t2, ⟨q1, q2, q3, fun z => by rw [drP_lo R hd4 _ _ (by omega)]; exact q4 z⟩, t4.draught hd.symm hd4 a3 ⟨c2, c3⟩ q1 q2, t5.c (drP_lo R hd4 _ _ (by omega)) B2 (fun k hk => drP_lo R hd4 _ _ (by omega)), C3.frj (fun i hi => s5.1 _ (by omega)) (fun i hi => by rw [s5.2]), ⟨?_, ?_⟩, fun k hk => ?_, (lw 2 (by omega)).trans t10, (lw 3 (by omega)).trans t11, (lw 4 (by omega)).trans t12, (lw 5 (by omega)).trans t13, (lw 6 (by omega)).trans t14⟩
                · rw [s5.1 18 (by omega), hu3, sf_n _ _ _ (by omega), sta_1, sta_1, r5.1 18 (by omega), g5.1 18 (by omega)]; exact t7
                · rw [s5.1 19 (by omega), hu3, sf_n _ _ _ (by omega), sta_1, sta_1, r5.1 19 (by omega), g5.1 19 (by omega)]; exact t8
                · unfold drW drP
                  rw [sta_h _ _ (by omega)]
                  refine puI ?_ _ Iff.rfl
                  rw [sta_h _ _ (by omega)]
                  refine puI ?_ _ Iff.rfl
                  rw [s6.2, hv2a, sta_h _ _ (by omega)]
                  refine puI ?_ _ Iff.rfl
                  rw [r6.2, g6.2, l2]
                  exact t9 k hk
              have hZn : Z0 (drP R d vu1 vu2) (2 * rc) := fun f f1 f2 => by rw [drP_lo R hd4 _ _ (by omega)]; exact hZ f f1 f2
              have hKn : Tok b n t4' p4 e4 vu4 u4 (drW v4 d (nI vu2)) := s3
              exact (signOut F hF hTn hZn hKn (by have := s3.2.1; have := g3'.2.1; have := r3.2.1; omega) (fX3.tr s5.fr) (drW_f (f2.tr s6.fr) _ _)).w
            · rw [s2, bd_s] at c5'
              rw [s1, bd_s, i00, md c5' s6.2, bd_s]
              exact Out.badT F (s3.dr _ _) (fX3.tr s5.fr) (drW_f (f2.tr s6.fr) _ _)
          · have c1' : chk F 1 9 u2 = some (0, u3) := c1
            have c2' : pX7_number F 1 9 v2a = some (nI 1, w3) := c2
            have nl := numLo F hF u2 v2a T2 (f2.tp t2) r3a (lo := 1) (hi := 9) (by omega) (by omega) c2
            rw [c1', bd_s, i00, md c2' nl.2, bd_s]
            exact Out.badT F (c3.dr _ _) ((g5.fr.tr r5.fr).tr c4) (drW_f (f2.tr c5) _ _)
        · rw [r2, bd_s] at a5'
          have r9 : (sta v2 2 (nI (47 + d)) (nI vu1)).1 9 = nI 1 := r3.2.2.2.2.2.1
          have md := M_draught F hd4 v1 v2 _ v146 a5' r6.2 (M_numB F (sta v2 2 (nI (47 + d)) (nI vu1)) 1 9 r9 (by omega) (by omega)) rfl
          rw [r1, bd_s, i00, bd_s, i00, md, bd_s]
          exact Out.badT F (Bad.dr (w := sta v2 2 (nI (47 + d)) (nI vu1)) r3 _ _) (g5.fr.tr r5.fr) (drW_f ((f1.tr r6.fr).st _ _) _ _)
      · have a1' : chk F 0 20 u1 = some (0, u2) := a1
        have a2' : pX7_number F 0 20 v1 = some (nI 0, w2) := a2
        have nl := numLo F hF u1 v1 (g5.fr.tp t1) (f1.tp t2) g3 (lo := 0) (hi := 20) (by omega) (by omega) a2
        have r9 : (sta w2 2 (nI (47 + d)) (nI 0)).1 9 = nI k := a3.2.2.2.2.2.1
        have md := M_draught F hd4 v1 w2 _ v146 a2' nl.2 (M_numB F (sta w2 2 (nI (47 + d)) (nI 0)) 1 9 r9 a3.1 a3.2.1) rfl
        rw [a1', bd_s, i00, md, bd_s]
        exact Out.badT F (Bad.dr (w := sta w2 2 (nI (47 + d)) (nI 0)) a3 _ _) (g5.fr.tr a4) (drW_f ((f1.tr a5).st _ _) _ _)
    · rw [g1, bd_s, i00, bd_s, i00, g2, bd_s, if_neg g3.le]
      exact Out.bad g3 g5.fr (f0.tr g6.fr)
/-- the docket's line -/
theorem docketT (F : Nat) (hF : 200 ≤ F) {b : Nat → Nat} {n K : Nat} {R : Nat → Nat} {rc rj dt h5 h6 t p e vu : Nat} {u v : St} (hT : TR b n R rc rj dt h5 h6 u v) (hZ : Z0 R (2 * rc)) (hK : Tok b n t p e vu u v) (hp : p < e) (hm : pX7_nameHere F v = some (if K = 11 then -4 else nI K, v)) (k4 : K = 10) : Out b n p (pX2_takesDocket F u) (pX7_readLine F v) u v := by
  have hK' := hK
  have hT' := hT
  obtain ⟨k1, k2, k3, k4', k5, k20, k21, k22, k23, k13, k12, k11, k14, k9⟩ := hK
  obtain ⟨t1, t2, ⟨q1, q2, q3, q4⟩, t4, t5, t6, ⟨t7, t8⟩, t9, t10, t11, t12, t13, t14⟩ := hT
  have n1 := t1.1
  have B1 := t4.1
  have B2 := t4.2.1
  unfold pX2_takesDocket
  rw [t8]
  by_cases hd : dt = 0
  · have c55 := q4 hd
    rw [hd, if_pos (show nI 0 = 0 from rfl), z01_1, gd_true, vl_e, M_lineG F v hm (by omega) t10 q1 t11 q2 t12 q3 (t9 46 (by omega)) B1 (by omega) (by omega) (by omega) (fun _ => hd), if_pos k4, k4]
    obtain ⟨v0, hv0⟩ : ∃ v0, v0 = stf v 4 (nI 1) := ⟨_, rfl⟩
    obtain ⟨u0, hu0⟩ : ∃ u0, u0 = stf u 19 1 := ⟨_, rfl⟩
    have f0 : FrM v v0 := by rw [hv0]; exact FrM.rf.sf (by omega) _
    have e0 : FrX u u0 := by rw [hu0]; exact FrX.rf.sf (by omega) _
    have hT0 : TR b n R rc rj 1 h5 h6 u0 v0 := by
      refine ⟨e0.tp t1, f0.tp t2, ⟨q1, q2, by omega, fun z => by omega⟩, t4, t5, t6.frj (fun i hi => ?_) (fun i hi => by rw [hu0]; rfl), ⟨?_, ?_⟩, fun k hk => by rw [hv0]; exact t9 k hk, ?_, ?_, ?_, ?_, ?_⟩
      · rw [hu0, sf_n _ _ _ (by omega)]
      · rw [hu0, sf_n _ _ _ (by omega)]; exact t7
      · rw [hu0, sf_k]; rfl
      · rw [hv0, sf_n _ _ _ (by omega)]; exact t10
      · rw [hv0, sf_n _ _ _ (by omega)]; exact t11
      · rw [hv0, sf_k]
      · rw [hv0, sf_n _ _ _ (by omega)]; exact t13
      · rw [hv0, sf_n _ _ _ (by omega)]; exact t14
    rw [← hv0, ← hu0]
    rcases next2 F hF u0 v0 hT0.1 hT0.2.1 k3 (by rw [hu0, sf_n _ _ _ (by omega)]; exact k22) (by rw [hv0, sf_n _ _ _ (by omega)]; exact k11) (by rw [hv0, sf_n _ _ _ (by omega)]; exact k9) with ⟨t1', p1, e1, vu1, u1, v1, g1, g2, g3, g4, g5, g6⟩ | ⟨q, u1, v1, g1, g2, g3, g5, g6⟩
    · have er : pX7_readMore F (nI 10) v1 = bd (pX7_readDocket F v1) (fun (_ : Unit) (u6 : St) => some ((), u6)) := by
        unfold pX7_readMore
        rw [L8, ifeq (by omega) (by omega), if_neg (by omega), L9, ifeq (by omega) (by omega), if_neg (by omega), L10, if_pos rfl]
      have es : ∀ x : Option (Unit × St), bd (bd x (fun (_ : Unit) (u6 : St) => some ((), u6))) (fun (_ : Unit) (w : St) => mtail F w) = bd x (fun (_ : Unit) (w : St) => mtail F w) := fun x => by
        cases x with
        | none => rfl
        | some a => rfl
      rw [g1, bd_s, i10, jn_e, g2, bd_s, g3.2.2.2.2.2.2.2.2.2.2.2.2.2, if_pos (show nI 0 ≤ 0 by decide), er, es]
      exact dock_loop F hF 6 0 F F R h5 h6 t1' p1 e1 vu1 u1 v1 (by omega) (by omega) (by omega) (hT0.ft g5 g6) c55 hZ g3 (by have := g3.2.1; omega) (e0.tr g5.fr) (f0.tr g6.fr)
    · rw [g1, bd_s, i00, g2, bd_s, if_neg g3.le]
      exact Out.bad g3 (e0.tr g5.fr) (f0.tr g6.fr)
  · have hd1 : dt = 1 := by omega
    rw [hd1] at t12 ⊢
    rw [if_neg (n0f (by omega) (by omega)), M_lineD F v (by rw [hm, k4, if_neg (by omega)]) k9 k12 t10 q1 t11 q2 t12 (t9 46 (by omega)) B1]
    unfold pX2_fails
    rw [vl_e, bd_s, z01_0, gd_true]
    exact Out.bad (k := 4) (q := p) ⟨by omega, by omega, by omega, Or.inl (by rw [sf_k]; rfl), by rw [sf_n _ _ _ (by omega)]; exact k21, by rw [sf_n _ _ _ (by omega), sf_n _ _ _ (by omega), sf_k]; rfl, by rw [sf_n _ _ _ (by omega), sf_k]⟩ (FrX.rf.sf (by omega) _) (((FrM.rf.sf (by omega) _).sf (by omega) _).sf (by omega) _)
end
section
/-! PURE: text: a case is added -/
def csW (u : St) (rc : Nat) : St := stf (sta (sta (sta (sta u 42 (nI rc) 0) 43 (nI rc) 0) 44 (nI rc) (-4)) 45 (nI rc) (-4)) 12 (nI (rc + 1))
theorem X_addC (F : Nat) {rc : Nat} (u : St) (h12 : u.1 12 = nI rc) (hh : rc < 4) : pX0_addCase F 3 u = some ((), csW u rc) := by
  have e : pX0_addCase F 3 u = if 4 ≤ (u.1 12) then some ((), u) else gd (inb (u.1 12) 4) (vl (sta u 42 (u.1 12) 0) (fun (u1 : St) => gd (inb (u1.1 12) 4) (vl (sta u1 43 (u1.1 12) 0) (fun (u2 : St) => gd (inb (u2.1 12) 4) (vl (sta u2 44 (u2.1 12) (-4)) (fun (u3 : St) => gd (inb (u3.1 12) 4) (vl (sta u3 45 (u3.1 12) (-4)) (fun (u4 : St) => vl (stf u4 12 ((u4.1 12) + 1)) (fun (u5 : St) => some ((), u5)))))))))) := rfl
  rw [e, h12, if_neg (by rw [L4]; exact nle hh (by omega)), gd_i (by omega) (by omega), vl_e, sta_1, h12, gd_i (by omega) (by omega), vl_e, sta_1, sta_1, h12, gd_i (by omega) (by omega), vl_e, sta_1, sta_1, sta_1, h12, gd_i (by omega) (by omega), vl_e, vl_e, sta_1, sta_1, sta_1, sta_1, h12, nI_s]
  rfl
theorem csW_m (u : St) (rc : Nat) {k : Nat} (h : k < 42 ∨ 45 < k) : (csW u rc).2 k = u.2 k := by
  show (sta (sta (sta (sta u 42 (nI rc) 0) 43 (nI rc) 0) 44 (nI rc) (-4)) 45 (nI rc) (-4)).2 k = u.2 k
  rw [sta_m _ _ _ (by omega), sta_m _ _ _ (by omega), sta_m _ _ _ (by omega), sta_m _ _ _ (by omega)]
theorem csW_h (u : St) {rc : Nat} (hr : rc < 4) (i : Nat) : (csW u rc).2 42 i = (if i = rc then 0 else u.2 42 i) ∧ (csW u rc).2 43 i = (if i = rc then 0 else u.2 43 i) ∧ (csW u rc).2 44 i = (if i = rc then -4 else u.2 44 i) ∧ (csW u rc).2 45 i = (if i = rc then -4 else u.2 45 i) := by
  refine ⟨?_, ?_, ?_, ?_⟩
  · show (sta (sta (sta (sta u 42 (nI rc) 0) 43 (nI rc) 0) 44 (nI rc) (-4)) 45 (nI rc) (-4)).2 42 i = _
    rw [sta_m _ _ _ (by omega), sta_m _ _ _ (by omega), sta_m _ _ _ (by omega), sta_h _ _ (by omega)]
  · show (sta (sta (sta (sta u 42 (nI rc) 0) 43 (nI rc) 0) 44 (nI rc) (-4)) 45 (nI rc) (-4)).2 43 i = _
    rw [sta_m _ _ _ (by omega), sta_m _ _ _ (by omega), sta_h _ _ (by omega), sta_m _ _ _ (by omega)]
  · show (sta (sta (sta (sta u 42 (nI rc) 0) 43 (nI rc) 0) 44 (nI rc) (-4)) 45 (nI rc) (-4)).2 44 i = _
    rw [sta_m _ _ _ (by omega), sta_h _ _ (by omega), sta_m _ _ _ (by omega), sta_m _ _ _ (by omega)]
  · show (sta (sta (sta (sta u 42 (nI rc) 0) 43 (nI rc) 0) 44 (nI rc) (-4)) 45 (nI rc) (-4)).2 45 i = _
    rw [sta_h _ _ (by omega), sta_m _ _ _ (by omega), sta_m _ _ _ (by omega), sta_m _ _ _ (by omega)]
theorem csW_f {u w : St} (f : FrX u w) (rc : Nat) : FrX u (csW w rc) := ((((f.st (by omega) _ _).st (by omega) _ _).st (by omega) _ _).st (by omega) _ _).sf (by omega) _
theorem CtX.case {rc rj : Nat} {R R2 : Nat → Nat} {u w : St} (hC : CtX 3 rc rj R u) (hr : rc < 4) (B1 : R 46 ≤ 4) (B2 : R 55 ≤ 6) (hj : rj ≤ 3) (z : ∀ k, 24 ≤ k → k < 40 → R k = 0) (s : ∀ k, k < 16 → w.1 k = u.1 k) (o : ∀ k, 42 ≤ k → k ≤ 51 → w.2 k = u.2 k) (e : ∀ f, f < 2 * rc → ∀ k, w.2 k f = u.2 k f) (eR : ∀ k, k < 2 * rc ∨ (8 ≤ k ∧ k < 8 + 2 * rc) ∨ (16 ≤ k ∧ k < 16 + 2 * rc) ∨ 24 ≤ k → R2 k = R k) (n0 : w.2 39 (2 * rc) = nI (R2 (2 * rc)) ∧ w.2 40 (2 * rc) = nI (R2 (8 + 2 * rc)) ∧ w.2 41 (2 * rc) = nI (R2 (16 + 2 * rc))) (n1 : w.2 39 (2 * rc + 1) = nI (R2 (2 * rc + 1)) ∧ w.2 40 (2 * rc + 1) = nI (R2 (8 + (2 * rc + 1))) ∧ w.2 41 (2 * rc + 1) = nI (R2 (16 + (2 * rc + 1)))) : CtX 3 (rc + 1) rj R2 (csW w rc) := by
  obtain ⟨h1, h2, h3, h4, h5, h6, h7, h8, h9⟩ := hC
  have s' : ∀ k, k < 16 → k ≠ 12 → (csW w rc).1 k = u.1 k := fun k k1 k2 => by
    show (stf (sta (sta (sta (sta w 42 (nI rc) 0) 43 (nI rc) 0) 44 (nI rc) (-4)) 45 (nI rc) (-4)) 12 (nI (rc + 1))).1 k = u.1 k
    rw [sf_n _ _ _ k2]
    exact s k k1
  refine ⟨sf_k _ _ _, (s' 13 (by omega) (by omega)).trans h2, (s' 14 (by omega) (by omega)).trans (h3.trans (by rw [eR 46 (by omega)])), (s' 15 (by omega) (by omega)).trans (h4.trans (by rw [eR 55 (by omega)])), fun f hf => ?_, fun i hi => ?_, fun i hi => ?_, fun i hi => ?_, fun i hi => ?_⟩
  · rw [csW_m w rc (by omega), csW_m w rc (by omega), csW_m w rc (by omega)]
    rcases (by omega : f < 2 * rc ∨ f = 2 * rc ∨ f = 2 * rc + 1) with q | q | q
    · rw [e f q, e f q, e f q, eR f (by omega), eR (8 + f) (by omega), eR (16 + f) (by omega)]
      exact h5 f q
    · rw [q]; exact n0
    · rw [q]; exact n1
  · obtain ⟨y1, y2, y3, y4⟩ := csW_h w hr i
    have eo : ∀ k, 42 ≤ k → k ≤ 51 → w.2 k i = u.2 k i := fun k a1 a2 => by rw [o k a1 a2]
    rw [eR (24 + i) (by omega), eR (28 + i) (by omega), eR (32 + i) (by omega), eR (36 + i) (by omega)]
    by_cases q : i = rc
    · rw [if_pos q] at y1 y2 y3 y4
      rw [z (24 + i) (by omega) (by omega), z (28 + i) (by omega) (by omega), z (32 + i) (by omega) (by omega), z (36 + i) (by omega) (by omega)]
      exact ⟨y1, y2, y3, y4⟩
    · rw [if_neg q] at y1 y2 y3 y4
      have old := h6 i (by omega)
      exact ⟨y1.trans ((eo 42 (by omega) (by omega)).trans old.1), y2.trans ((eo 43 (by omega) (by omega)).trans old.2.1), y3.trans ((eo 44 (by omega) (by omega)).trans old.2.2.1), y4.trans ((eo 45 (by omega) (by omega)).trans old.2.2.2)⟩
  · rw [csW_m w rc (by omega), csW_m w rc (by omega), o _ (by omega) (by omega), o _ (by omega) (by omega), eR _ (by omega), eR _ (by omega)]
    exact h7 i hi
  · rw [eR 46 (by omega)] at hi
    rw [csW_m w rc (by omega), csW_m w rc (by omega), o _ (by omega) (by omega), o _ (by omega) (by omega), eR _ (by omega), eR _ (by omega)]
    exact h8 i hi
  · rw [eR 55 (by omega)] at hi
    rw [csW_m w rc (by omega), csW_m w rc (by omega), o _ (by omega) (by omega), o _ (by omega) (by omega), eR _ (by omega), eR _ (by omega)]
    exact h9 i hi
theorem BD.case {R R2 : Nat → Nat} {rc rj : Nat} (hB : BD R rc rj) (hr : rc < 4) (hj : rj ≤ 3) (eR : ∀ k, k < 2 * rc ∨ (8 ≤ k ∧ k < 8 + 2 * rc) ∨ (16 ≤ k ∧ k < 16 + 2 * rc) ∨ 24 ≤ k → R2 k = R k) (n0 : R2 (2 * rc) ≤ 3 ∧ R2 (8 + 2 * rc) ≤ 99 ∧ R2 (16 + 2 * rc) ≤ 9) (n1 : R2 (2 * rc + 1) ≤ 3 ∧ R2 (8 + (2 * rc + 1)) ≤ 99 ∧ R2 (16 + (2 * rc + 1)) ≤ 9) : BD R2 (rc + 1) rj := by
  obtain ⟨b1, b2, b3, b4, b5, b6, b7⟩ := hB
  refine ⟨by rw [eR 46 (by omega)]; exact b1, by rw [eR 55 (by omega)]; exact b2, fun f hf => ?_, fun k k1 k2 => ?_, fun i hi => ?_, fun i hi => ?_, fun i hi => ?_⟩
  · rcases (by omega : f < 2 * rc ∨ f = 2 * rc ∨ f = 2 * rc + 1) with q | q | q
    · rw [eR f (by omega), eR (8 + f) (by omega), eR (16 + f) (by omega)]
      exact b3 f q
    · rw [q]; exact n0
    · rw [q]; exact n1
  · rw [eR k (by omega)]
    exact b4 k k1 k2
  · rw [eR _ (by omega), eR _ (by omega)]
    exact b5 i hi
  · rw [eR 46 (by omega)] at hi
    rw [eR _ (by omega), eR _ (by omega)]
    exact b6 i hi
  · rw [eR 55 (by omega)] at hi
    rw [eR _ (by omega), eR _ (by omega)]
    exact b7 i hi
theorem Bad.m2 {k q : Nat} {u w : St} (h : Bad k q u w) (y : Int32) : Bad k q u (stf w 2 y) := by
  obtain ⟨x1, x2, x3, x4, x5, x6, x7⟩ := h
  exact ⟨x1, x2, x3, x4, x5, (sf_n _ _ _ (by omega)).trans x6, (sf_n _ _ _ (by omega)).trans x7⟩
theorem M_case (F : Nat) (v : St) : pX7_readMore F (nI 8) v = bd (pX7_readFlame F (2 * (v.1 2)) v) (fun (_ : Unit) (u14 : St) => bd (pX7_readFlame F ((2 * (u14.1 2)) + 1) u14) (fun (_ : Unit) (u15 : St) => some ((), stf u15 2 ((u15.1 2) + 1)))) := by
  unfold pX7_readMore
  rw [L8, if_pos rfl]
  rfl
theorem caseT (F : Nat) (hF : 200 ≤ F) {b : Nat → Nat} {n K : Nat} {R : Nat → Nat} {rc rj dt h5 h6 t p e vu : Nat} {u v : St} (hT : TR b n R rc rj dt h5 h6 u v) (hZ : Z0 R (2 * rc)) (hK : Tok b n t p e vu u v) (hp : p < e) (hm : pX7_nameHere F v = some (if K = 11 then -4 else nI K, v)) (k4 : K = 8) : Out b n p (pX2_takesCase F u) (pX7_readLine F v) u v := by
  have hK' := hK
  have hT' := hT
  obtain ⟨k1, k2, k3, k4', k5, k20, k21, k22, k23, k13, k12, k11, k14, k9⟩ := hK
  obtain ⟨t1, t2, ⟨q1, q2, q3, q4⟩, t4, t5, t6, ⟨t7, t8⟩, t9, t10, t11, t12, t13, t14⟩ := hT
  have n1 := t1.1
  have u12 : u.1 12 = nI rc := t6.1
  have B1 := t4.1
  have B2 := t4.2.1
  unfold pX2_takesCase
  rw [u12]
  by_cases hj : rc = 4
  · rw [if_neg (by rw [L4]; exact nlt (by omega) (by omega)), M_lineF F v hm (by omega) k9 k12 t10 q1 t11 q2 t12 q3 (t9 46 (by omega)) B1 (by omega)]
    unfold pX2_fails
    rw [vl_e, bd_s, z01_0, gd_true]
    exact Out.bad (k := 5) (q := p) ⟨by omega, by omega, by omega, Or.inl (by rw [sf_k]; rfl), by rw [sf_n _ _ _ (by omega)]; exact k21, by rw [sf_n _ _ _ (by omega), sf_n _ _ _ (by omega), sf_k]; rfl, by rw [sf_n _ _ _ (by omega), sf_k]⟩ (FrX.rf.sf (by omega) _) (((FrM.rf.sf (by omega) _).sf (by omega) _).sf (by omega) _)
  · have hr : rc < 4 := by omega
    rw [if_pos (by rw [L4]; exact ylt hr (by omega)), M_lineG F v hm (by omega) t10 q1 t11 q2 t12 q3 (t9 46 (by omega)) B1 (by omega) (by omega) (by omega) (by omega), if_neg (show ¬ K = 10 by omega), k4]
    obtain ⟨v0, hv0⟩ : ∃ v0, v0 = stf v 4 (nI dt) := ⟨_, rfl⟩
    have f0 : FrM v v0 := by rw [hv0]; exact FrM.rf.sf (by omega) _
    have l0 : ∀ k, v0.1 k = v.1 k := fun k => by
      rw [hv0, stf_1]
      by_cases z : k = 4
      · rw [if_pos z, z, t12]
      · rw [if_neg z]
    have l2 : v0.2 = v.2 := by rw [hv0]; rfl
    rw [← hv0]
    rcases next2 F hF u v0 t1 (f0.tp t2) k3 k22 ((l0 11).trans k11) ((l0 9).trans k9) with ⟨t1', p1, e1, vu1, u1, v1, g1, g2, g3, g4, g5, g6⟩ | ⟨q, u1, v1, g1, g2, g3, g5, g6⟩
    · have f1 : FrM v v1 := f0.tr g6.fr
      have v12 : v1.1 2 = nI rc := ((g6.1 2 (by omega)).trans (l0 2)).trans t10
      have u112 : u1.1 12 = nI rc := (g5.1 12 (by omega)).trans u12
      have R1 : ∀ k, k < 68 → v1.2 2 k = nI (R k) := fun k hk => by rw [g6.2, l2]; exact t9 k hk
      rw [g1, bd_s, i10, g2, bd_s, g3.2.2.2.2.2.2.2.2.2.2.2.2.2, if_pos (show nI 0 ≤ 0 by decide), M_case, v12, u112, tm2]
      rcases flameT F hF (a := 2 * rc) u1 v1 (g5.fr.tp t1) (f1.tp t2) g3 (by omega) R1 ((g5.1 18 (by omega)).trans t7) (hZ (2 * rc) (by omega) (by omega)) with ⟨Ra, t2', p2, e2, vu2, u2, v2, a1, a2, a3, a4, a5, a6, a7, a8, a9, a10, a11, a12, a13, a14, a15⟩ | ⟨k, q, u2, v2, a1, a2, a3, a4, a5⟩
      · have u212 : u2.1 12 = nI rc := (a12 12 (by omega)).trans u112
        have v22 : v2.1 2 = nI rc := (a13 2 (by omega)).trans v12
        rw [a1, bd_s, i10, a2, bd_s, u212, v22, tm2, nI_s]
        rcases flameT F hF (a := 2 * rc + 1) u2 v2 ((g5.fr.tr a14).tp t1) ((f1.tr a15).tp t2) a3 (by omega) a5 a6 (by rw [a7 _ (by omega) (by omega) (by omega)]; exact hZ (2 * rc + 1) (by omega) (by omega)) with ⟨Rb, t3', p3, e3, vu3, u3, v3, c1, c2, c3, c4, c5, c6, c7, c8, c9, c10, c11, c12, c13, c14, c15⟩ | ⟨k, q, u3, v3, c1, c2, c3, c4, c5⟩
        · have u312 : u3.1 12 = nI rc := (c12 12 (by omega)).trans u212
          have v32 : v3.1 2 = nI rc := (c13 2 (by omega)).trans v22
          rw [c1, bd_s, i10, c2, bd_s, X_addC F u3 u312 hr, bd_s, bd_s, v32, nI_s]
          have fX : FrX u u3 := (g5.fr.tr a14).tr c14
          have fM : FrM v v3 := (f1.tr a15).tr c15
          have eR : ∀ k, k < 2 * rc ∨ (8 ≤ k ∧ k < 8 + 2 * rc) ∨ (16 ≤ k ∧ k < 16 + 2 * rc) ∨ 24 ≤ k → Rb k = R k := fun k hk => by rw [c7 k (by omega) (by omega) (by omega), a7 k (by omega) (by omega) (by omega)]
          have s0 : ∀ k, k < 20 → u3.1 k = u.1 k := fun k hk => ((c12 k (by omega)).trans (a12 k (by omega))).trans (g5.1 k (by omega))
          have o0 : ∀ k, 42 ≤ k → k ≤ 51 → u3.2 k = u.2 k := fun k h1 h2 => by rw [c11 k (by omega) (by omega) (by omega), a11 k (by omega) (by omega) (by omega), g5.2]
          have w0 : ∀ k, k < 9 → v3.1 k = v.1 k := fun k hk => (((c13 k hk).trans (a13 k hk)).trans (g6.1 k (by omega))).trans (l0 k)
          have C3 : CtX 3 (rc + 1) rj Rb (csW u3 rc) := t6.case hr B1 B2 q2 t4.2.2.2.1 (fun k hk => s0 k (by omega)) o0 (fun f hf k => by rw [c10 k f (by omega), a10 k f (by omega), g5.2]) eR ⟨by rw [c10 _ _ (by omega), c7 _ (by omega) (by omega) (by omega)]; exact a9.1, by rw [c10 _ _ (by omega), c7 _ (by omega) (by omega) (by omega)]; exact a9.2.1, by rw [c10 _ _ (by omega), c7 _ (by omega) (by omega) (by omega)]; exact a9.2.2⟩ c9
          have hTn : TR b n Rb (rc + 1) rj dt h5 h6 (csW u3 rc) (stf v3 2 (nI (rc + 1))) := by
            refine ⟨(csW_f fX rc).tp t1, (fM.sf (by omega) _).tp t2, ⟨by omega, q2, q3, fun z => by rw [eR 55 (by omega)]; exact q4 z⟩, t4.case hr q2 eR ⟨by rw [c7 _ (by omega) (by omega) (by omega)]; exact a8.1, by rw [c7 _ (by omega) (by omega) (by omega)]; exact a8.2.1, by rw [c7 _ (by omega) (by omega) (by omega)]; exact a8.2.2⟩ c8, t5.c (eR 55 (by omega)) B2 (fun k hk => eR k (by omega)), C3, ⟨?_, ?_⟩, c5, sf_k _ _ _, ?_, ?_, ?_, ?_⟩
            · exact (sf_n _ _ _ (by omega)).trans c6
            · exact (sf_n _ _ _ (by omega)).trans ((s0 19 (by omega)).trans t8)
            · exact (sf_n _ _ _ (by omega)).trans ((w0 3 (by omega)).trans t11)
            · exact (sf_n _ _ _ (by omega)).trans ((w0 4 (by omega)).trans t12)
            · exact (sf_n _ _ _ (by omega)).trans ((w0 5 (by omega)).trans t13)
            · exact (sf_n _ _ _ (by omega)).trans ((w0 6 (by omega)).trans t14)
          have hZn : Z0 Rb (2 * (rc + 1)) := fun f f1 f2 => by rw [c7 _ (by omega) (by omega) (by omega), a7 _ (by omega) (by omega) (by omega)]; exact hZ f (by omega) f2
          have hKn : Tok b n t3' p3 e3 vu3 (csW u3 rc) (stf v3 2 (nI (rc + 1))) := by
            obtain ⟨r1, r2, r3, r4, r5, r20, r21, r22, r23, r13, r12, r11, r14, r9⟩ := c3
            exact ⟨r1, r2, r3, r4, r5, (sf_n _ _ _ (by omega)).trans r20, (sf_n _ _ _ (by omega)).trans r21, (sf_n _ _ _ (by omega)).trans r22, fun z => (sf_n _ _ _ (by omega)).trans (r23 z), (sf_n _ _ _ (by omega)).trans r13, (sf_n _ _ _ (by omega)).trans r12, (sf_n _ _ _ (by omega)).trans r11, (sf_n _ _ _ (by omega)).trans r14, (sf_n _ _ _ (by omega)).trans r9⟩
          exact (signOut F hF hTn hZn hKn (by have := c3.2.1; have := a3.2.1; have := g3.2.1; omega) (csW_f fX rc) (fM.sf (by omega) _)).z
        · rw [c1, bd_s, i00, c2, bd_s, bd_s]
          exact Out.badT F (c3.m2 _) ((g5.fr.tr a14).tr c4) (((f1.tr a15).tr c5).sf (by omega) _)
      · rw [a1, bd_s, i00, a2, bd_s, M_flameB F v2 _ a3.2.2.2.2.2.1 a3.1 a3.2.1, bd_s, bd_s]
        exact Out.badT F (a3.m2 _) (g5.fr.tr a4) ((f1.tr a5).sf (by omega) _)
    · rw [g1, bd_s, i00, g2, bd_s, if_neg g3.le]
      exact Out.bad g3 g5.fr (f0.tr g6.fr)
/-- a line -/
theorem lineT (F : Nat) (hF : 200 ≤ F) {b : Nat → Nat} {n : Nat} {R : Nat → Nat} {rc rj dt h5 h6 t p e vu : Nat} {u v : St} (hT : TR b n R rc rj dt h5 h6 u v) (hZ : Z0 R (2 * rc)) (hK : Tok b n t p e vu u v) (ht : t ≠ 0) : Out b n p (pX2_takesLine F u) (pX7_readLine F v) u v := by
  obtain ⟨K, hK11, hxn, hmn⟩ := nameK F hF u v hT.1 hT.2.1 hK
  have hp := hK.2.2.2.1 ht
  rw [X_line F u hK11 hxn]
  by_cases q8 : K = 8
  · rw [if_pos q8]
    exact (caseT F hF hT hZ hK hp hmn q8).z
  · rw [if_neg q8]
    by_cases q9 : K = 9
    · rw [if_pos q9]
      exact (draughtT F hF hT hZ hK hp hmn q9).z
    · rw [if_neg q9]
      by_cases q10 : K = 10
      · rw [if_pos q10]
        exact (docketT F hF hT hZ hK hp hmn q10).z
      · rw [if_neg q10]
        by_cases q : 4 ≤ K ∧ K < 8
        · rw [if_pos q]
          exact (judgeT F hF hT hZ hK hp hmn q).z
        · rw [if_neg q]
          have n1 := hT.1.1
          obtain ⟨k1, k2, k3, k4', k5, k20, k21, k22, k23, k13, k12, k11, k14, k9⟩ := hK
          rw [M_lineN F hK11 v hmn k9 k12 (by omega)]
          exact Out.bad (k := 2) (q := p) ⟨by omega, by omega, by omega, Or.inl (by rw [sf_k]; rfl), by rw [sf_n _ _ _ (by omega)]; exact k21, by rw [sf_n _ _ _ (by omega), sf_k]; rfl, by rw [sf_k]⟩ (FrX.rf.sf (by omega) _) ((FrM.rf.sf (by omega) _).sf (by omega) _)
end
section
/-! PURE: text: the lines one after another -/
theorem text_stop (F : Nat) {b : Nat → Nat} {n : Nat} {u v : St} (Q : Option (Int32 × St) → Option (Int32 × St) → Prop) (JX : Int32 → Int32 → St → Option (Int32 × St)) (JM : Int32 → St → Option (Int32 × St)) (good : ∀ (k : Nat) (R : Nat → Nat) (rc rj dt h5 h6 p e vu : Nat) (u' v' : St), TR b n R rc rj dt h5 h6 u' v' → Tok b n 0 p e vu u' v' → FrX u u' → FrM v v' → Q (JX (nI k) 1 u') (JM (nI k) v')) (sX : Int32 → Int32 → St → Option (Int32 × St)) (sM : Int32 → St → Option (Int32 × St)) {k : Nat} {R : Nat → Nat} {rc rj dt h5 h6 p e vu : Nat} {u1 v1 : St} (hT : TR b n R rc rj dt h5 h6 u1 v1) (hK : Tok b n 0 p e vu u1 v1) (fX : FrX u u1) (fM : FrM v v1) : Q (bX6_text_10 F JX sX (nI k) 1 u1) (bX7_text_62 F JM sM (nI k) v1) := by
  have hg := good k R rc rj dt h5 h6 p e vu u1 v1 hT hK fX fM
  obtain ⟨k1, k2, k3, k4, k5, k20, k21, k22, k23, k13, k12, k11, k14, k9⟩ := hK
  have eX : bX6_text_10 F JX sX (nI k) 1 u1 = JX (nI k) 1 u1 := by
    unfold bX6_text_10 pX2_isAtEnd
    rw [i10]
    by_cases q : (160 : Int32) ≤ nI k
    · rw [if_pos q]
    · rw [if_neg q, k20, if_pos (show nI 0 = 0 from rfl), bd_s, i10]
  have eM : bX7_text_62 F JM sM (nI k) v1 = JM (nI k) v1 := by
    unfold bX7_text_62
    rw [k9, if_pos (show nI 0 = 0 from rfl), k13, if_pos (show nI 0 = 0 from rfl)]
  rw [eX, eM]
  exact hg
theorem text_loop (F : Nat) (hF : 200 ≤ F) {b : Nat → Nat} {n : Nat} {u v : St} (Q : Option (Int32 × St) → Option (Int32 × St) → Prop) (JX : Int32 → Int32 → St → Option (Int32 × St)) (JM : Int32 → St → Option (Int32 × St)) (good : ∀ (k : Nat) (R : Nat → Nat) (rc rj dt h5 h6 p e vu : Nat) (u' v' : St), TR b n R rc rj dt h5 h6 u' v' → Tok b n 0 p e vu u' v' → FrX u u' → FrM v v' → Q (JX (nI k) 1 u') (JM (nI k) v')) (bad : ∀ (k x q : Nat) (u' v' : St), Bad x q u' v' → FrX u u' → FrM v v' → Q (JX (nI k) 0 u') (JM (nI k) v')) : ∀ (d k G G' : Nat) (R : Nat → Nat) (rc rj dt h5 h6 t p e vu : Nat) (u1 v1 : St), n ≤ p + d → d < G → d < G' → k ≤ p → TR b n R rc rj dt h5 h6 u1 v1 → Z0 R (2 * rc) → Tok b n t p e vu u1 v1 → FrX u u1 → FrM v v1 → Q (lq2 (bX6_text_10 F JX) G (nI k) 1 u1) (lq1 (bX7_text_62 F JM) G' (nI k) v1) := by
  intro d
  induction d with
  | zero =>
    intro k G G' R rc rj dt h5 h6 t p e vu u1 v1 hd hG hG' hk hT hZ hK fX fM
    obtain ⟨G1, rfl⟩ : ∃ G1, G = G1 + 1 := ⟨G - 1, by omega⟩
    obtain ⟨G2, rfl⟩ : ∃ G2, G' = G2 + 1 := ⟨G' - 1, by omega⟩
    have t0 : t = 0 := by
      have h1 := hK.2.2.2.1
      have h2 := hK.2.2.1
      by_cases q : t = 0
      · exact q
      · have := h1 q
        omega
    rw [t0] at hK
    show Q (bX6_text_10 F JX (lq2 (bX6_text_10 F JX) G1) (nI k) 1 u1) (bX7_text_62 F JM (lq1 (bX7_text_62 F JM) G2) (nI k) v1)
    exact text_stop F Q JX JM good _ _ hT hK fX fM
  | succ d ih =>
    intro k G G' R rc rj dt h5 h6 t p e vu u1 v1 hd hG hG' hk hT hZ hK fX fM
    obtain ⟨G1, rfl⟩ : ∃ G1, G = G1 + 1 := ⟨G - 1, by omega⟩
    obtain ⟨G2, rfl⟩ : ∃ G2, G' = G2 + 1 := ⟨G' - 1, by omega⟩
    show Q (bX6_text_10 F JX (lq2 (bX6_text_10 F JX) G1) (nI k) 1 u1) (bX7_text_62 F JM (lq1 (bX7_text_62 F JM) G2) (nI k) v1)
    by_cases t0 : t = 0
    · rw [t0] at hK
      exact text_stop F Q JX JM good _ _ hT hK fX fM
    · have hl := lineT F hF hT hZ hK t0
      have n1 := hT.1.1
      obtain ⟨k1, k2, k3, k4, k5, k20, k21, k22, k23, k13, k12, k11, k14, k9⟩ := hK
      have hp := k4 t0
      have eX : bX6_text_10 F JX (lq2 (bX6_text_10 F JX) G1) (nI k) 1 u1 = bd (pX2_takesLine F u1) (fun (r23 : Int32) (u22 : St) => (lq2 (bX6_text_10 F JX) G1 (nI (k + 1)) r23 u22)) := by
        unfold bX6_text_10 pX2_isAtEnd
        rw [i10, if_neg (show ¬ (160 : Int32) ≤ nI k by rw [L160]; exact nle (by omega) (by omega)), k20, if_neg (n0f t0 (by omega)), bd_s, i00, nI_s]
      have eM : bX7_text_62 F JM (lq1 (bX7_text_62 F JM) G2) (nI k) v1 = bd (pX7_readLine F v1) (fun (_ : Unit) (u30 : St) => (lq1 (bX7_text_62 F JM) G2 (nI (k + 1)) u30)) := by
        unfold bX7_text_62
        rw [k9, if_pos (show nI 0 = 0 from rfl), k13, if_neg (n0f t0 (by omega)), nI_s]
      rw [eX, eM]
      rcases hl with ⟨R', rc', rj', dt', h5', h6', t', p', e', vu', u', v', g1, g2, g3, g4, g5, g6, g7, g8⟩ | ⟨x, q, u', v', g1, g2, g3, g4, g5⟩
      · rw [g1, bd_s, g2, bd_s]
        exact ih (k + 1) G1 G2 R' rc' rj' dt' h5' h6' t' p' e' vu' u' v' (by omega) (by omega) (by omega) (by omega) g3 g4 g5 (fX.tr g7) (fM.tr g8)
      · obtain ⟨G3, rfl⟩ : ∃ G3, G1 = G3 + 1 := ⟨G1 - 1, by omega⟩
        obtain ⟨G4, rfl⟩ : ∃ G4, G2 = G4 + 1 := ⟨G2 - 1, by omega⟩
        have hb := bad (k + 1) x q u' v' g3 (fX.tr g4) (fM.tr g5)
        have eX2 : lq2 (bX6_text_10 F JX) (G3 + 1) (nI (k + 1)) 0 u' = JX (nI (k + 1)) 0 u' := by
          show bX6_text_10 F JX (lq2 (bX6_text_10 F JX) G3) (nI (k + 1)) 0 u' = _
          unfold bX6_text_10
          rw [i00]
        have eM2 : lq1 (bX7_text_62 F JM) (G4 + 1) (nI (k + 1)) v' = JM (nI (k + 1)) v' := by
          show bX7_text_62 F JM (lq1 (bX7_text_62 F JM) G4) (nI (k + 1)) v' = _
          obtain ⟨x1, x2, x3, x4, x5, x6, x7⟩ := g3
          unfold bX7_text_62
          rw [x6, if_neg (n0f (by omega) (by omega))]
        rw [g1, bd_s, g2, bd_s, eX2, eM2]
        exact hb
/-- the docket names what is told -/
theorem X_inR (F : Nat) {c x : Nat} (u : St) (hc : c < 1000) (hx : x < 1000) : pX6_isIn F (Int32.toInt64 (nI x)) 0 (nI c - 1) u = some (b01 (x < c), u) := by
  rw [X_isIn, tI64, subL (by omega), tI (by omega), show (0 : Int32).toInt = 0 from by decide]
  by_cases q : x < c
  · rw [b01_t q, b01_t (by constructor <;> omega)]
  · rw [b01_f q, b01_f (by omega)]
theorem X_stands (F : Nat) (hF : 200 ≤ F) {R : Nat → Nat} {rc rj : Nat} (u : St) (hC : CtX 3 rc rj R u) (hB : BD R rc rj) (hc : rc ≤ 4) (hj : rj ≤ 3) : pX2_docketStands F u = if (∀ i, i < R 55 → R (56 + i) < rc ∧ R (62 + i) < rj) then some (1, u) else some (0, stf u 18 6) := by
  have B2 := hB.2.1
  have hb7 := hB.2.2.2.2.2.2
  obtain ⟨h1, h2, h3, h4, h5, h6, h7, h8, h9⟩ := hC
  have c1 : u.1 12 = nI rc := h1
  have c2 : u.1 13 = nI rj := h2
  have c4 : u.1 15 = nI (R 55) := h4
  have hcs : ∀ x, x < 1000 → pX0_hasCase F 3 (Int32.toInt64 (nI x)) u = some (b01 (x < rc), u) := fun x hx => by
    unfold pX0_hasCase
    rw [show 4 * 3 + 0 = 12 from rfl, c1, X_inR F u (by omega) hx, bd_s, z01_b01, gd_true]
  have hjd : ∀ x, x < 1000 → pX0_hasJudge F 3 (nI x) u = some (b01 (x < rj), u) := fun x hx => by
    unfold pX0_hasJudge
    rw [show 4 * 3 + 1 = 13 from rfl, c2, X_inR F u (by omega) hx, bd_s, z01_b01, gd_true]
  have hJ : jX2_docketStands_52 F u = some (0, stf u 18 6) := by
    unfold jX2_docketStands_52 pX2_fails
    rw [vl_e, bd_s, z01_0, gd_true]
  have step : ∀ s i, i < R 55 → bX2_docketStands_2 F (jX2_docketStands_52 F) s (nI i) u = if R (56 + i) < rc ∧ R (62 + i) < rj then s (nI (i + 1)) u else some (0, stf u 18 6) := fun s i hi => by
    have o1 : u.2 50 i = nI (R (56 + i)) := (h9 i hi).1
    have o2 : u.2 51 i = nI (R (62 + i)) := (h9 i hi).2
    have bb := hb7 i hi
    unfold bX2_docketStands_2
    rw [c4, if_neg (nle hi (by omega)), gd_i (by omega) (by omega), cl (by omega), o1, hcs _ (by omega), bd_s, b01_0, gd_i (by omega) (by omega), o2, hjd _ (by omega), bd_s, b01_0, hJ, nI_s]
    by_cases a : R (56 + i) < rc
    · by_cases b : R (62 + i) < rj
      · rw [if_pos a, if_pos b, if_pos ⟨a, b⟩]
      · rw [if_pos a, if_neg b, if_neg (fun z => b z.2)]
    · rw [if_neg a, if_neg (fun z => a z.1)]
  unfold pX2_docketStands
  rw [jn_e]
  have go : ∀ (k i G : Nat), i + k = R 55 → k < G → ((∀ j, i ≤ j → j < R 55 → R (56 + j) < rc ∧ R (62 + j) < rj) → lq1 (bX2_docketStands_2 F (jX2_docketStands_52 F)) G (nI i) u = some (1, u)) ∧ (¬ (∀ j, i ≤ j → j < R 55 → R (56 + j) < rc ∧ R (62 + j) < rj) → lq1 (bX2_docketStands_2 F (jX2_docketStands_52 F)) G (nI i) u = some (0, stf u 18 6)) := by
    intro k
    induction k with
    | zero =>
      intro i G hi hG
      obtain ⟨G1, rfl⟩ : ∃ G1, G = G1 + 1 := ⟨G - 1, by omega⟩
      have e : lq1 (bX2_docketStands_2 F (jX2_docketStands_52 F)) (G1 + 1) (nI i) u = some (1, u) := by
        show bX2_docketStands_2 F (jX2_docketStands_52 F) (lq1 (bX2_docketStands_2 F (jX2_docketStands_52 F)) G1) (nI i) u = _
        unfold bX2_docketStands_2
        rw [c4, if_pos (yle (by omega) (by omega))]
      exact ⟨fun _ => e, fun z => absurd (fun j a b => by omega) z⟩
    | succ k ih =>
      intro i G hi hG
      obtain ⟨G1, rfl⟩ : ∃ G1, G = G1 + 1 := ⟨G - 1, by omega⟩
      have e : lq1 (bX2_docketStands_2 F (jX2_docketStands_52 F)) (G1 + 1) (nI i) u = if R (56 + i) < rc ∧ R (62 + i) < rj then lq1 (bX2_docketStands_2 F (jX2_docketStands_52 F)) G1 (nI (i + 1)) u else some (0, stf u 18 6) := step _ i (by omega)
      obtain ⟨i1, i2⟩ := ih (i + 1) G1 (by omega) (by omega)
      rw [e]
      by_cases a : R (56 + i) < rc ∧ R (62 + i) < rj
      · rw [if_pos a]
        refine ⟨fun z => i1 (fun j h1 h2 => z j (by omega) h2), fun z => i2 (fun y => z (fun j h1 h2 => ?_))⟩
        by_cases q : j = i
        · rw [q]; exact a
        · exact y j (by omega) h2
      · rw [if_neg a]
        exact ⟨fun z => absurd (z i (by omega) (by omega)) a, fun _ => rfl⟩
  obtain ⟨y1, y2⟩ := go (R 55) 0 F (by omega) (by omega)
  rw [show lq1 (bX2_docketStands_2 F (jX2_docketStands_52 F)) F 0 u = lq1 (bX2_docketStands_2 F (jX2_docketStands_52 F)) F (nI 0) u from rfl]
  by_cases q : ∀ i, i < R 55 → R (56 + i) < rc ∧ R (62 + i) < rj
  · rw [if_pos q]
    exact y1 (fun j _ h => q j h)
  · rw [if_neg q]
    exact y2 (fun z => q (fun i hi => z i (by omega) hi))
end
section
/-! PURE: text: how it ends -/
def TQ (x m : Option (Int32 × St)) : Prop := ∃ (r : Int32) (u' v' : St), x = some (r, u') ∧ m = some (r, v') ∧ RR u' v'
def eX (F : Nat) (a3 : Int32) (a6 : Int32) (u7 : St) : Option (Int32 × St) := vl (stf u7 17 0) (fun (u8 : St) => if a6 = 0 then some (((-10) - (u8.1 21)), u8) else bd (pX0_becomes F 0 3 u8) (fun (_ : Unit) (u9 : St) => vl (stf u9 29 0) (fun (u10 : St) => gd (inb 0 2) (vl (stz u10 66 0 0) (fun (u11 : St) => gd (inb 1 2) (vl (stz u11 66 1 0) (fun (u12 : St) => some (a3, u12))))))))
theorem X_end_e (F : Nat) (a3 a4 : Int32) (u5 : St) : jX6_text_45 F a3 a4 u5 = if a4 = 0 then eX F a3 0 u5 else bd (pX2_docketStands F u5) (fun (r15 : Int32) (u14 : St) => if r15 = 0 then eX F a3 0 u14 else eX F a3 1 u14) := rfl
def eM (F : Nat) (a10 : Int32) (u12 : St) : Option (Int32 × St) := vl (stf u12 7 0) (fun (u13 : St) => vl (stf u13 8 (u13.1 9)) (fun (u14 : St) => if (u14.1 9) ≤ 0 then (lq1 (bX7_text_151 F (jX7_text_175 F a10)) F 0 u14) else some (((-10) - (u14.1 10)), u14)))
theorem M_end_e (F : Nat) (a10 : Int32) (u11 : St) : jX7_text_86 F a10 u11 = if (u11.1 9) = 0 then (if (u11.1 2) ≤ (u11.1 5) then bd (pX7_fails F 6 u11) (fun (_ : Unit) (u26 : St) => eM F a10 u26) else if (u11.1 6) < (u11.1 3) then eM F a10 u11 else bd (pX7_fails F 6 u11) (fun (_ : Unit) (u26 : St) => eM F a10 u26)) else eM F a10 u11 := rfl
theorem text_fail (F : Nat) {u v u' v' : St} (h : RR u v) {k q : Nat} (hb : Bad k q u' v') (fX : FrX u u') (fM : FrM v v') (a b : Int32) : TQ (eX F a 0 u') (eM F b v') := by
  obtain ⟨c, jn, P, ⟨c1, c2, c3, hX, c5, c6, c7⟩, i0, i1, hs, ht, hw, htn, hsh, hc⟩ := h
  have hle := hb.le
  obtain ⟨x1, x2, x3, x4, x5, x6, x7⟩ := hb
  obtain ⟨U, hU⟩ : ∃ U, U = stf u' 17 0 := ⟨_, rfl⟩
  obtain ⟨V, hV⟩ : ∃ V, V = stf (stf v' 7 0) 8 (v'.1 9) := ⟨_, rfl⟩
  have e1 : eX F a 0 u' = some (-10 - nI q, U) := by
    unfold eX
    rw [vl_e, i00, sf_n _ _ _ (by omega), x5, hU]
  have e2 : eM F b v' = some (-10 - nI q, V) := by
    unfold eM
    rw [vl_e, vl_e, sf_n _ _ _ (by omega), sf_n _ _ _ (by omega), if_neg hle, sf_n _ _ _ (by omega), sf_n _ _ _ (by omega), x7, hV]
  have U1 : ∀ k, k < 12 ∨ k = 16 ∨ 24 ≤ k → U.1 k = u.1 k := fun k hk => by rw [hU, sf_n _ _ _ (by omega)]; exact fX.1 k (by omega)
  have U2 : ∀ k, k < 39 ∨ 51 < k → U.2 k = u.2 k := fun k hk => by rw [hU]; exact fX.2 k hk
  have V1 : ∀ k, k < 2 ∨ 15 ≤ k → V.1 k = v.1 k := fun k hk => by rw [hV, sf_n _ _ _ (by omega), sf_n _ _ _ (by omega)]; exact fM.1 k (by omega)
  have V2 : ∀ k, k ≠ 2 → V.2 k = v.2 k := fun k hk => by rw [hV]; exact fM.2 k hk
  have im : ∀ j, j < 2 → RImg j c jn u v → RImg j c jn U V := fun j hj z => z.same hj (fun i hi => U1 _ (by omega)) (fun i hi => U2 _ (by omega)) (by rw [U2 66 (by omega)]) (by rw [V2 12 (by omega)]) (fun i hi => by rw [V2 0 (by omega)])
  refine ⟨-10 - nI q, U, V, e1, e2, c, jn, P, ⟨c1, c2, c3, hX.frj (fun i hi => U1 _ (by omega)) (fun i hi => U2 _ (by omega)), (V1 0 (by omega)).trans c5, (V1 1 (by omega)).trans c6, fun i hi => by rw [V2 0 (by omega)]; exact c7 i hi⟩, im 0 (by omega) i0, im 1 (by omega) i1, ?_, ⟨0, by omega, by rw [hU, sf_k]; rfl, by rw [hV, sf_n _ _ _ (by omega), sf_k]; rfl, fun i hi => by omega⟩, ?_, ?_, ?_, ?_⟩
  · exact hs.fr (U1 29 (by omega)) (U2 _ (by omega)) (U2 _ (by omega)) (U2 _ (by omega)) (V1 21 (by omega)) (V2 _ (by omega))
  · rw [hU, hV, sf_n _ _ _ (by omega), sf_k, x6]
    rcases x4 with x4 | ⟨z, x4⟩
    · rw [x4]; exact Or.inl rfl
    · rw [x4, z]; exact Or.inr ⟨by decide +kernel, by decide +kernel⟩
  · rw [U1 16 (by omega), V1 22 (by omega)]; exact htn
  · exact fun i hi => (hsh i hi).fr (U2 _ (by omega)) (U2 _ (by omega)) (U2 _ (by omega)) (V2 _ (by omega)) (V2 _ (by omega)) (V2 _ (by omega))
  · exact hc.fr (V1 15 (by omega)) (V1 17 (by omega)) (V2 _ (by omega)) (V2 _ (by omega)) (V2 _ (by omega))
theorem stz01 (s : St) (k : Nat) : (stz (stz s k 0 0) k 1 0).2 k 0 = 0 ∧ (stz (stz s k 0 0) k 1 0).2 k 1 = 0 := by
  have e : stz (stz s k 0 0) k 1 0 = stz (stz s k (nI 0) 0) k (nI 1) 0 := rfl
  rw [e]
  exact ⟨by rw [stz_o _ _ (by omega) (by omega), stz_h _ _ (by omega), if_pos rfl, vb0], by rw [stz_h _ _ (by omega), if_pos rfl, vb0]⟩
theorem M_page (F : Nat) (hF : 200 ≤ F) (J : St → Option (Int32 × St)) (v : St) : ∃ y : St, lq1 (bX7_text_151 F J) F 0 v = J y ∧ y.1 = v.1 ∧ (∀ k, k ≠ 0 → y.2 k = v.2 k) ∧ ∀ j, j < 68 → y.2 0 j = v.2 2 j := by
  have := lq1_up (b := bX7_text_151 F J) (n := 68) (fun i w => w.1 = v.1 ∧ (∀ k, k ≠ 0 → w.2 k = v.2 k) ∧ ∀ j, j < i → w.2 0 j = v.2 2 j) (fun x => ∃ y : St, x = J y ∧ y.1 = v.1 ∧ (∀ k, k ≠ 0 → y.2 k = v.2 k) ∧ ∀ j, j < 68 → y.2 0 j = v.2 2 j)
    (fun s w ⟨i1, i2, i3⟩ => ⟨w, by unfold bX7_text_151; rw [L68, if_pos (yle (by omega) (by omega))], i1, i2, i3⟩)
    (fun s i w hi ⟨i1, i2, i3⟩ => Or.inr ⟨sta w 0 (nI i) (w.2 2 i), by
      unfold bX7_text_151
      rw [L68, if_neg (nle hi (by omega)), gd_i (by omega) (by omega), gd_i (by omega) (by omega), vl_e, cl (by omega), nI_s], i1, fun k hk => by rw [sta_m _ _ _ hk]; exact i2 k hk, fun j hj => by
        rw [sta_h _ _ (by omega)]
        by_cases q : j = i
        · rw [if_pos q, i2 2 (by omega), q]
        · rw [if_neg q]; exact i3 j (by omega)⟩)
    68 0 F v (by omega) (by omega) ⟨rfl, fun _ _ => rfl, fun j hj => by omega⟩
  exact this
theorem M_zero (F : Nat) (hF : 200 ≤ F) (J : St → Option (Int32 × St)) (v : St) : ∃ y : St, lq1 (bX7_text_39 F J) F 0 v = J y ∧ y.1 = v.1 ∧ (∀ k, k ≠ 2 → y.2 k = v.2 k) ∧ ∀ j, j < 68 → y.2 2 j = nI 0 := by
  have := lq1_up (b := bX7_text_39 F J) (n := 68) (fun i w => w.1 = v.1 ∧ (∀ k, k ≠ 2 → w.2 k = v.2 k) ∧ ∀ j, j < i → w.2 2 j = nI 0) (fun x => ∃ y : St, x = J y ∧ y.1 = v.1 ∧ (∀ k, k ≠ 2 → y.2 k = v.2 k) ∧ ∀ j, j < 68 → y.2 2 j = nI 0)
    (fun s w ⟨i1, i2, i3⟩ => ⟨w, by unfold bX7_text_39; rw [L68, if_pos (yle (by omega) (by omega))], i1, i2, i3⟩)
    (fun s i w hi ⟨i1, i2, i3⟩ => Or.inr ⟨sta w 2 (nI i) 0, by
      unfold bX7_text_39
      rw [L68, if_neg (nle hi (by omega)), gd_i (by omega) (by omega), vl_e, nI_s], i1, fun k hk => by rw [sta_m _ _ _ hk]; exact i2 k hk, fun j hj => by
        rw [sta_h _ _ (by omega)]
        by_cases q : j = i
        · rw [if_pos q]; rfl
        · rw [if_neg q]; exact i3 j (by omega)⟩)
    68 0 F v (by omega) (by omega) ⟨rfl, fun _ _ => rfl, fun j hj => by omega⟩
  exact this
theorem text_win (F : Nat) (hF : 200 ≤ F) {b : Nat → Nat} {n k : Nat} {R : Nat → Nat} {rc rj dt h5 h6 p e vu : Nat} {u v u' v' : St} (h : RR u v) (hT : TR b n R rc rj dt h5 h6 u' v') (hK : Tok b n 0 p e vu u' v') (fX : FrX u u') (fM : FrM v v') (hst : ∀ i, i < R 55 → R (56 + i) < rc ∧ R (62 + i) < rj) : TQ (eX F (nI k) 1 u') (eM F (nI k) v') := by
  obtain ⟨c, jn, P, ⟨c1, c2, c3, hX, c5, c6, c7⟩, i0, i1, hs, ht, hw, htn, hsh, hc⟩ := h
  obtain ⟨t1, t2, ⟨q1, q2, q3, q4⟩, ⟨b1, b2, b3, b4, b5, b6, b7⟩, t5, t6, ⟨t7, t8⟩, t9, t10, t11, t12, t13, t14⟩ := hT
  obtain ⟨k1, k2, k3, k4, k5, k20, k21, k22, k23, k13, k12, k11, k14, k9⟩ := hK
  have hP : PgOK rc rj R := ⟨b1, b2, b3, fun i hi => by rw [b4 (24 + i) (by omega) (by omega), b4 (28 + i) (by omega) (by omega), b4 (32 + i) (by omega) (by omega), b4 (36 + i) (by omega) (by omega)]; omega, b5, b6, hst⟩
  have g02 : inb 0 2 = true := by decide +kernel
  have g12 : inb 1 2 = true := by decide +kernel
  obtain ⟨w0, hw0⟩ : ∃ w0, w0 = stf u' 17 0 := ⟨_, rfl⟩
  obtain ⟨w, g1, g2, g3, g4, g5⟩ := X_becomes F (p := 3) (j := 0) (by omega) (by omega) (by omega) w0
  have hC0 : CtX 3 rc rj R w0 := t6.frj (fun i hi => by rw [hw0, sf_n _ _ _ (by omega)]) (fun i hi => by rw [hw0]; rfl)
  have hC : CtX 0 rc rj R w := hC0.becomes hP q1 q2 g2 g5
  obtain ⟨U, hU⟩ : ∃ U, U = stz (stz (stf w 29 0) 66 0 0) 66 1 0 := ⟨_, rfl⟩
  have e1 : eX F (nI k) 1 u' = some (nI k, U) := by
    unfold eX
    rw [vl_e, i10, ← hw0, g1, bd_s, vl_e, g02, gd_true, vl_e, g12, gd_true, vl_e, hU]
  obtain ⟨x0, hx0⟩ : ∃ x0, x0 = stf (stf v' 7 0) 8 (v'.1 9) := ⟨_, rfl⟩
  obtain ⟨y, m1, m2, m3, m4⟩ := M_page F hF (jX7_text_175 F (nI k)) x0
  obtain ⟨V, hV⟩ : ∃ V, V = stz (stz (stf (stf (stf y 0 (y.1 2)) 1 ((stf y 0 (y.1 2)).1 3)) 21 0) 12 0 0) 12 1 0 := ⟨_, rfl⟩
  have e2 : eM F (nI k) v' = some (nI k, V) := by
    have x9 : x0.1 9 = nI 0 := by rw [hx0, sf_n _ _ _ (by omega), sf_n _ _ _ (by omega)]; exact k9
    unfold eM
    rw [vl_e, vl_e, sf_n v' 7 0 (show 9 ≠ 7 by omega), ← hx0, x9, if_pos (show nI 0 ≤ 0 by decide), m1]
    unfold jX7_text_175
    rw [vl_e, vl_e, vl_e, g02, gd_true, vl_e, g12, gd_true, vl_e, hV]
  have y1 : ∀ j, j ≠ 7 → j ≠ 8 → y.1 j = v'.1 j := fun j h1 h2 => by rw [m2, hx0, sf_n _ _ _ h2, sf_n _ _ _ h1]
  have U1 : ∀ j, j ≠ 29 → U.1 j = w.1 j := fun j hj => by
    rw [hU, stz_1, stz_1, sf_n _ _ _ hj]
  have U2 : ∀ j, j ≠ 66 → U.2 j = w.2 j := fun j hj => by
    rw [hU, stz_m _ _ _ hj, stz_m _ _ _ hj]
    rfl
  have W1 : ∀ j, 4 ≤ j → j ≠ 17 → w.1 j = u'.1 j := fun j h1 h2 => by rw [g3 j (by omega), hw0, sf_n _ _ _ h2]
  have W2 : ∀ j, 13 ≤ j → w.2 j = u'.2 j := fun j h1 => by rw [g4 j (by omega), hw0]; rfl
  have V1 : ∀ j, j ≠ 0 → j ≠ 1 → j ≠ 21 → V.1 j = y.1 j := fun j h1 h2 h3 => by
    rw [hV, stz_1, stz_1, sf_n _ _ _ h3, sf_n _ _ _ h2, sf_n _ _ _ h1]
  have V2 : ∀ j, j ≠ 12 → V.2 j = y.2 j := fun j hj => by
    rw [hV, stz_m _ _ _ hj, stz_m _ _ _ hj]
    rfl
  have Y2 : ∀ j, j ≠ 0 → y.2 j = v'.2 j := fun j hj => by rw [m3 j hj, hx0]; rfl
  have z66 := stz01 (stf w 29 0) 66
  have z12 := stz01 (stf (stf (stf y 0 (y.1 2)) 1 ((stf y 0 (y.1 2)).1 3)) 21 0) 12
  rw [← hU] at z66
  rw [← hV] at z12
  refine ⟨nI k, U, V, e1, e2, rc, rj, R, ⟨q1, q2, hP, hC.frj (fun i hi => U1 _ (by omega)) (fun i hi => U2 _ (by omega)), ?_, ?_, fun i hi => ?_⟩, Or.inl ⟨z66.1, z12.1⟩, Or.inl ⟨z66.2, z12.2⟩, ⟨0, by omega, ?_, ?_, fun i hi => by omega⟩, ⟨0, by omega, ?_, ?_, fun i hi => by omega⟩, ?_, ?_, ?_, ?_⟩
  · rw [hV, stz_1, stz_1, sf_n _ _ _ (by omega), sf_n _ _ _ (by omega), sf_k, y1 2 (by omega) (by omega)]; exact t10
  · rw [hV, stz_1, stz_1, sf_n _ _ _ (by omega), sf_k, sf_n _ _ _ (by omega), y1 3 (by omega) (by omega)]; exact t11
  · rw [V2 0 (by omega), show 68 * 0 + i = i by omega, m4 i hi, hx0]
    exact t9 i hi
  · rw [hU, stz_1, stz_1, sf_k]; rfl
  · rw [hV, stz_1, stz_1, sf_k]; rfl
  · rw [U1 17 (by omega), g3 17 (by omega), hw0, sf_k]; rfl
  · rw [V1 7 (by omega) (by omega) (by omega), m2, hx0, sf_n _ _ _ (by omega), sf_k]; rfl
  · rw [U1 18 (by omega), W1 18 (by omega) (by omega), V1 8 (by omega) (by omega) (by omega), m2, hx0, sf_k, t7, k9]; exact Or.inl rfl
  · rw [U1 16 (by omega), W1 16 (by omega) (by omega), V1 22 (by omega) (by omega) (by omega), y1 22 (by omega) (by omega), fX.1 16 (by omega), fM.1 22 (by omega)]; exact htn
  · have E : ∀ a, 63 ≤ a → a ≤ 65 → U.2 a = u.2 a := fun a h1 h2 => by rw [U2 a (by omega), W2 a (by omega)]; exact fX.2 a (by omega)
    have G : ∀ a, 9 ≤ a → a ≤ 11 → V.2 a = v.2 a := fun a h1 h2 => by rw [V2 a (by omega), Y2 a (by omega)]; exact fM.2 a (by omega)
    exact fun i hi => (hsh i hi).fr (E 63 (by omega) (by omega)) (E 64 (by omega) (by omega)) (E 65 (by omega) (by omega)) (G 9 (by omega) (by omega)) (G 10 (by omega) (by omega)) (G 11 (by omega) (by omega))
  · have G : ∀ a, a ≠ 0 → a ≠ 2 → a ≠ 12 → V.2 a = v.2 a := fun a h1 h2 h3 => by rw [V2 a h3, Y2 a h1]; exact fM.2 a h2
    exact hc.fr (by rw [V1 15 (by omega) (by omega) (by omega), y1 15 (by omega) (by omega)]; exact fM.1 15 (by omega)) (by rw [V1 17 (by omega) (by omega) (by omega), y1 17 (by omega) (by omega)]; exact fM.1 17 (by omega)) (G 1 (by omega) (by omega) (by omega)) (G 4 (by omega) (by omega) (by omega)) (G 5 (by omega) (by omega) (by omega))
end
section
/-! PURE: text: the whole of it -/
theorem text_good (F : Nat) (hF : 200 ≤ F) {b : Nat → Nat} {n k : Nat} {R : Nat → Nat} {rc rj dt h5 h6 p e vu : Nat} {u v u' v' : St} (h : RR u v) (hT : TR b n R rc rj dt h5 h6 u' v') (hK : Tok b n 0 p e vu u' v') (fX : FrX u u') (fM : FrM v v') : TQ (jX6_text_45 F (nI k) 1 u') (jX7_text_86 F (nI k) v') := by
  have hT' := hT
  have hK' := hK
  obtain ⟨t1, t2, ⟨q1, q2, q3, q4⟩, t4, ⟨y1, y2, y3, y4, y5⟩, t6, ⟨t7, t8⟩, t9, t10, t11, t12, t13, t14⟩ := hT
  obtain ⟨k1, k2, k3, k4, k5, k20, k21, k22, k23, k13, k12, k11, k14, k9⟩ := hK
  have n1 := t1.1
  rw [X_end_e, i10, X_stands F hF u' t6 t4 q1 q2, M_end_e, k9, if_pos (show nI 0 = 0 from rfl), t10, t13, t14, t11]
  have a5 : (nI rc ≤ nI h5 - 1) ↔ rc < h5 := by
    rw [Int32.le_iff_toInt_le, subL (by omega), tI (by omega)]
    omega
  have a6 : (nI h6 - 1 < nI rj) ↔ h6 ≤ rj := by
    rw [Int32.lt_iff_toInt_lt, subL (by omega), tI (by omega)]
    omega
  have key : (∀ i, i < R 55 → R (56 + i) < rc ∧ R (62 + i) < rj) ↔ (¬ rc < h5 ∧ h6 ≤ rj) := by
    constructor
    · intro z
      constructor
      · rcases y4 with g | ⟨i, g1, g2⟩
        · omega
        · have := (z i g1).1
          omega
      · rcases y5 with g | ⟨i, g1, g2⟩
        · omega
        · have := (z i g1).2
          omega
    · intro z i hi
      have := y3 i hi
      omega
  have e9 : (stf (stf v' 9 6) 10 (nI p)).1 9 = nI 6 := by rw [sf_n _ _ _ (by omega), sf_k]; rfl
  have hb : Bad 6 p (stf u' 18 6) (stf (stf v' 9 6) 10 (nI p)) := ⟨by omega, by omega, by omega, Or.inl (by rw [sf_k]; rfl), by rw [sf_n _ _ _ (by omega)]; exact k21, e9, by rw [sf_k]⟩
  have hfail := text_fail F h hb (fX.sf (by omega) _) ((fM.sf (by omega) _).sf (by omega) _) (nI k) (nI k)
  by_cases z5 : rc < h5
  · rw [if_neg (fun z => (key.mp z).1 z5), bd_s, i00, if_pos (a5.mpr z5), M_fails F v' 6 k9 k12, bd_s]
    exact hfail
  · rw [if_neg (fun z => z5 (a5.mp z))]
    by_cases z6 : h6 ≤ rj
    · rw [if_pos (key.mpr ⟨z5, z6⟩), bd_s, i10, if_pos (a6.mpr z6)]
      exact text_win F hF h hT' hK' fX fM (key.mpr ⟨z5, z6⟩)
    · rw [if_neg (fun z => z6 (key.mp z).2), bd_s, i00, if_neg (fun z => z6 (a6.mp z)), M_fails F v' 6 k9 k12, bd_s]
      exact hfail
theorem text_bad (F : Nat) {k x q : Nat} {u v u' v' : St} (h : RR u v) (hb : Bad x q u' v') (fX : FrX u u') (fM : FrM v v') : TQ (jX6_text_45 F (nI k) 0 u') (jX7_text_86 F (nI k) v') := by
  have e : ¬ v'.1 9 = 0 := by
    rw [hb.2.2.2.2.2.1]
    exact n0f (by have := hb.1; omega) (by have := hb.2.1; omega)
  rw [X_end_e, i00, M_end_e, if_neg e]
  exact text_fail F h hb fX fM _ _
theorem st_text (F : Nat) (hF : 200 ≤ F) {u v : St} (h : RR u v) : TQ (pX6_text F u) (pX7_text F v) := by
  obtain ⟨c, jn, P, -, -, -, -, ⟨n, n1, n2, n3, n4⟩, -, -, -, hc⟩ := id h
  obtain ⟨b, hb⟩ : ∃ b : Nat → Nat, b = fun i => Int32.toNatClampNeg (u.2 54 i) := ⟨_, rfl⟩
  have hbb : ∀ i, i < n → b i ≤ 127 ∧ u.2 54 i = nI (b i) ∧ v.2 3 i = nI (b i) := fun i hi => by
    obtain ⟨x, x1, x2, x3⟩ := n4 i hi
    have : b i = x := by rw [hb]; show Int32.toNatClampNeg (u.2 54 i) = x; rw [x2, cl (by omega)]
    rw [this]
    exact ⟨x1, x2, x3⟩
  obtain ⟨u0, hu0⟩ : ∃ u0, u0 = stf (stf (stf (stf (stf (stf (stf u 12 0) 13 0) 14 0) 15 0) 19 0) 18 0) 22 0 := ⟨_, rfl⟩
  have eB : pX2_begins F u = bd (pX2_readsNext F u0) (fun (r6 : Int32) (u5 : St) => gd (z01 r6) (some (r6, u5))) := by
    unfold pX2_begins pX0_clear
    rw [vl_e, vl_e, vl_e, vl_e, bd_s, z01_0, gd_true, vl_e, vl_e, vl_e, hu0]
  obtain ⟨w0, hw0⟩ : ∃ w0, w0 = stf (stf (stf (stf (stf (stf (stf v 9 0) 11 0) 2 0) 3 0) 4 0) 5 (-1)) 6 (-1) := ⟨_, rfl⟩
  obtain ⟨v0, m1, m2, m3, m4⟩ := M_zero F hF (jX7_text_58 F) w0
  have eM : pX7_text F v = bd (pX7_step F v0) (fun (_ : Unit) (u9 : St) => lq1 (bX7_text_62 F (jX7_text_86 F)) F 0 u9) := by
    unfold pX7_text
    rw [vl_e, vl_e, vl_e, vl_e, z01_0, gd_true, vl_e, vl_e, vl_e, jn_e, ← hw0, m1]
    unfold jX7_text_58
    simp (implicitDefEqProofs := false) only [jn_e]
  have fX0 : FrX u u0 := by rw [hu0]; exact ((((((FrX.rf.sf (by omega) _).sf (by omega) _).sf (by omega) _).sf (by omega) _).sf (by omega) _).sf (by omega) _).sf (by omega) _
  have fW : FrM v w0 := by rw [hw0]; exact ((((((FrM.rf.sf (by omega) _).sf (by omega) _).sf (by omega) _).sf (by omega) _).sf (by omega) _).sf (by omega) _).sf (by omega) _
  have fM0 : FrM v v0 := ⟨fun k hk => by rw [m2]; exact fW.1 k hk, fun k hk => by rw [m3 k hk]; exact fW.2 k hk⟩
  have tX : TpX b n u := ⟨n1, n2, fun i hi => ⟨(hbb i hi).1, (hbb i hi).2.1⟩⟩
  have tM : TpM b n v := ⟨n1, n3, fun i hi => ⟨(hbb i hi).1, (hbb i hi).2.2⟩, hc.2.2.2.1, hc.2.2.2.2⟩
  have s18 : u0.1 18 = nI 0 := by rw [hu0, sf_n _ _ _ (by omega), sf_k]; rfl
  have s19 : u0.1 19 = nI 0 := by rw [hu0, sf_n _ _ _ (by omega), sf_n _ _ _ (by omega), sf_k]; rfl
  have s22 : u0.1 22 = nI 0 := by rw [hu0, sf_k]; rfl
  have s12 : u0.1 12 = nI 0 := by rw [hu0, sf_n _ _ _ (by omega), sf_n _ _ _ (by omega), sf_n _ _ _ (by omega), sf_n _ _ _ (by omega), sf_n _ _ _ (by omega), sf_n _ _ _ (by omega), sf_k]; rfl
  have s13 : u0.1 13 = nI 0 := by rw [hu0, sf_n _ _ _ (by omega), sf_n _ _ _ (by omega), sf_n _ _ _ (by omega), sf_n _ _ _ (by omega), sf_n _ _ _ (by omega), sf_k]; rfl
  have s14 : u0.1 14 = nI 0 := by rw [hu0, sf_n _ _ _ (by omega), sf_n _ _ _ (by omega), sf_n _ _ _ (by omega), sf_n _ _ _ (by omega), sf_k]; rfl
  have s15 : u0.1 15 = nI 0 := by rw [hu0, sf_n _ _ _ (by omega), sf_n _ _ _ (by omega), sf_n _ _ _ (by omega), sf_k]; rfl
  have r6 : v0.1 6 = nI 0 - 1 := by rw [m2, hw0, sf_k]; rfl
  have r5 : v0.1 5 = nI 0 - 1 := by rw [m2, hw0, sf_n _ _ _ (by omega), sf_k]; rfl
  have r4 : v0.1 4 = nI 0 := by rw [m2, hw0, sf_n _ _ _ (by omega), sf_n _ _ _ (by omega), sf_k]; rfl
  have r3 : v0.1 3 = nI 0 := by rw [m2, hw0, sf_n _ _ _ (by omega), sf_n _ _ _ (by omega), sf_n _ _ _ (by omega), sf_k]; rfl
  have r2 : v0.1 2 = nI 0 := by rw [m2, hw0, sf_n _ _ _ (by omega), sf_n _ _ _ (by omega), sf_n _ _ _ (by omega), sf_n _ _ _ (by omega), sf_k]; rfl
  have r11 : v0.1 11 = nI 0 := by rw [m2, hw0, sf_n _ _ _ (by omega), sf_n _ _ _ (by omega), sf_n _ _ _ (by omega), sf_n _ _ _ (by omega), sf_n _ _ _ (by omega), sf_k]; rfl
  have r9 : v0.1 9 = nI 0 := by rw [m2, hw0, sf_n _ _ _ (by omega), sf_n _ _ _ (by omega), sf_n _ _ _ (by omega), sf_n _ _ _ (by omega), sf_n _ _ _ (by omega), sf_n _ _ _ (by omega), sf_k]; rfl
  have hT0 : TR b n (fun _ => 0) 0 0 0 0 0 u0 v0 := by
    refine ⟨fX0.tp tX, fM0.tp tM, ⟨by omega, by omega, by omega, fun _ => rfl⟩, ⟨Nat.zero_le _, Nat.zero_le _, fun f hf => by omega, fun _ _ _ => rfl, fun j hj => by omega, fun i hi => absurd hi (Nat.not_lt_zero i), fun i hi => absurd hi (Nat.not_lt_zero i)⟩, ⟨by omega, by omega, fun i hi => absurd hi (Nat.not_lt_zero i), Or.inl rfl, Or.inl rfl⟩, ⟨s12, s13, s14, s15, fun f hf => by omega, fun f hf => by omega, fun f hf => by omega, fun i hi => absurd hi (Nat.not_lt_zero i), fun i hi => absurd hi (Nat.not_lt_zero i)⟩, ⟨s18, s19⟩, m4, r2, r3, r4, r5, r6⟩
  unfold pX6_text
  rw [eB, eM]
  obtain ⟨G, hG⟩ : ∃ G, F = G + 1 := ⟨F - 1, by omega⟩
  rcases next2 F hF u0 v0 hT0.1 hT0.2.1 (by omega) s22 r11 r9 with ⟨t, p, e, vu, u1, v1, g1, g2, g3, g4, g5, g6⟩ | ⟨q, u1, v1, g1, g2, g3, g5, g6⟩
  · rw [g1, bd_s, z01_1, gd_true, bd_s, jn_e, g2, bd_s]
    exact text_loop F hF TQ (jX6_text_45 F) (jX7_text_86 F) (fun k R rc rj dt h5 h6 p e vu u' v' a1 a2 a3 a4 => text_good F hF h a1 a2 a3 a4) (fun k x q u' v' a1 a2 a3 => text_bad F h a1 a2 a3) n 0 F F (fun _ => 0) 0 0 0 0 0 t p e vu u1 v1 (by omega) (by have := tX.1; omega) (by have := tX.1; omega) (by omega) (hT0.ft g5 g6) (fun f _ _ => rfl) g3 (fX0.tr g5.fr) (fM0.tr g6.fr)
  · rw [g1, bd_s, z01_0, gd_true, bd_s, jn_e, g2, bd_s]
    have hb := text_bad F (k := 0) h g3 (fX0.tr g5.fr) (fM0.tr g6.fr)
    have x6 := g3.2.2.2.2.2.1
    have eX2 : lq2 (bX6_text_10 F (jX6_text_45 F)) (G + 1) (nI 0) 0 u1 = jX6_text_45 F (nI 0) 0 u1 := by
      show bX6_text_10 F (jX6_text_45 F) (lq2 (bX6_text_10 F (jX6_text_45 F)) G) (nI 0) 0 u1 = _
      unfold bX6_text_10
      rw [i00]
    have eM2 : lq1 (bX7_text_62 F (jX7_text_86 F)) (G + 1) (nI 0) v1 = jX7_text_86 F (nI 0) v1 := by
      show bX7_text_62 F (jX7_text_86 F) (lq1 (bX7_text_62 F (jX7_text_86 F)) G) (nI 0) v1 = _
      unfold bX7_text_62
      rw [x6, if_neg (n0f (by omega) (by omega))]
    rw [← hG] at eX2 eM2
    have f1 : lq2 (bX6_text_10 F (jX6_text_45 F)) F 0 0 u1 = jX6_text_45 F (nI 0) 0 u1 := eX2
    have f2 : lq1 (bX7_text_62 F (jX7_text_86 F)) F 0 v1 = jX7_text_86 F (nI 0) v1 := eM2
    rw [f1, f2]
    exact hb
theorem step_text {u v : St} (h : RR u v) : ∃ (r : Int32) (u' v' : St), pX6_text LF u = some (r, u') ∧ pX7_text LF v = some (r, v') ∧ RR u' v' := st_text LF (by decide) h
end
