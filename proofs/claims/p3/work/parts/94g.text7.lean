/-! PURE: text: the docket -/
theorem dockM_bad (F : Nat) (s : St → Option (Unit × St)) {k : Nat} (v : St) (h : v.1 9 = nI k) (h0 : 0 < k) (h1 : k < 10) : bX7_readDocket_0 F s v = some ((), v) := by
  unfold bX7_readDocket_0
  rw [h, if_neg (n0f (by omega) (by omega))]
/-- behind six hearings the class asks what stands there -/
theorem jdock (F : Nat) {t h : Nat} (u1 : St) (h15 : u1.1 15 = nI h) (k20 : u1.1 20 = nI t) (hh : h ≤ 6) (ht : t ≤ 3) : jX2_takesDocket_58 F u1 = if h < 6 ∨ t = 3 ∨ t = 0 then bd (pX2_takesSign F u1) (fun (r8 : Int32) (u7 : St) => gd (z01 r8) (some (r8, u7))) else some (0, stf u1 18 5) := by
  have eB : bd (pX2_fails F 5 u1) (fun (r10 : Int32) (u9 : St) => gd (z01 r10) (some (r10, u9))) = some (0, stf u1 18 5) := by
    unfold pX2_fails
    rw [vl_e, bd_s, z01_0, gd_true]
  show (if (u1.1 15) < 6 then (if (0 : Int32) = 0 then bd (pX2_takesSign F u1) (fun (r8 : Int32) (u7 : St) => gd (z01 r8) (some (r8, u7))) else bd (pX2_fails F 5 u1) (fun (r10 : Int32) (u9 : St) => gd (z01 r10) (some (r10, u9)))) else if (u1.1 20) = 3 then (if (0 : Int32) = 0 then bd (pX2_takesSign F u1) (fun (r8 : Int32) (u7 : St) => gd (z01 r8) (some (r8, u7))) else bd (pX2_fails F 5 u1) (fun (r10 : Int32) (u9 : St) => gd (z01 r10) (some (r10, u9)))) else if (u1.1 20) = 0 then (if (0 : Int32) = 0 then bd (pX2_takesSign F u1) (fun (r8 : Int32) (u7 : St) => gd (z01 r8) (some (r8, u7))) else bd (pX2_fails F 5 u1) (fun (r10 : Int32) (u9 : St) => gd (z01 r10) (some (r10, u9)))) else (if (1 : Int32) = 0 then bd (pX2_takesSign F u1) (fun (r8 : Int32) (u7 : St) => gd (z01 r8) (some (r8, u7))) else bd (pX2_fails F 5 u1) (fun (r10 : Int32) (u9 : St) => gd (z01 r10) (some (r10, u9))))) = _
  rw [eB, i00, i10, h15, k20]
  by_cases c1 : h < 6
  · rw [if_pos (show nI h < 6 from by rw [L6]; exact ylt c1 (by omega)), if_pos (Or.inl c1)]
  · rw [if_neg (show ¬ nI h < 6 from by rw [L6]; exact nlt (by omega) (by omega))]
    by_cases c2 : t = 3
    · rw [c2, if_pos (show nI 3 = 3 from rfl), if_pos (Or.inr (Or.inl rfl))]
    · rw [if_neg (show ¬ nI t = 3 from by rw [L3]; exact neI c2 (by omega) (by omega))]
      by_cases c3 : t = 0
      · rw [c3, if_pos (show nI 0 = 0 from rfl), if_pos (Or.inr (Or.inr rfl))]
      · rw [if_neg (show ¬ nI t = 0 from by rw [L0]; exact neI c3 (by omega) (by omega)), if_neg (by omega)]
theorem dock_stop (F : Nat) (hF : 200 ≤ F) {b : Nat → Nat} {n p : Nat} {R : Nat → Nat} {rc rj dt h5 h6 t p1 e1 vu h : Nat} {u v u1 v1 : St} (sX : Int32 → St → Option (Int32 × St)) (sM : St → Option (Unit × St)) (hT : TR b n R rc rj dt h5 h6 u1 v1) (hZ : Z0 R (2 * rc)) (hK : Tok b n t p1 e1 vu u1 v1) (hp : p < e1) (fX : FrX u u1) (fM : FrM v v1) (ht : t ≠ 2) (hh : h ≤ 6) : Out b n p (bX2_takesDocket_29 F (jX2_takesDocket_58 F) sX (nI h) u1) (bd (bX7_readDocket_0 F sM v1) (fun (_ : Unit) (w : St) => mtail F w)) u v := by
  have hs := (signOut F hF hT hZ hK hp fX fM).z
  obtain ⟨k1, k2, k3, k4, k5, k20, k21, k22, k23, k13, k12, k11, k14, k9⟩ := hK
  have h15 : u1.1 15 = nI (R 55) := hT.2.2.2.2.2.1.2.2.2.1
  have h55 : R 55 ≤ 6 := hT.2.2.2.1.2.1
  have n1 := hT.1.1
  have eX : bX2_takesDocket_29 F (jX2_takesDocket_58 F) sX (nI h) u1 = jX2_takesDocket_58 F u1 := by
    unfold bX2_takesDocket_29
    rw [k20, if_neg (show ¬ nI t = 2 from by rw [L2]; exact neI ht (by omega) (by omega)), ite_self]
  have eM : bX7_readDocket_0 F sM v1 = some ((), v1) := by
    unfold bX7_readDocket_0
    rw [k9, if_pos (show nI 0 = 0 from rfl), k13, if_neg (show ¬ nI t = 2 from by rw [L2]; exact neI ht (by omega) (by omega))]
  rw [eX, eM, bd_s, jdock F u1 h15 k20 h55 k1]
  by_cases c : R 55 < 6 ∨ t = 3 ∨ t = 0
  · rw [if_pos c]
    exact hs
  · rw [if_neg c]
    have e9 : (stf (stf v1 9 2) 10 (nI p1)).1 9 = nI 2 := by rw [sf_n _ _ _ (by omega), sf_k]; rfl
    refine Or.inr ⟨2, p1, stf u1 18 5, stf (stf v1 9 2) 10 (nI p1), rfl, ?_, ⟨by omega, by omega, by omega, Or.inr ⟨rfl, by rw [sf_k]; rfl⟩, by rw [sf_n _ _ _ (by omega)]; exact k21, e9, by rw [sf_k]⟩, fX.sf (by omega) _, (fM.sf (by omega) _).sf (by omega) _⟩
    unfold mtail
    rw [k9, if_pos (show nI 0 = 0 from rfl), k13, if_neg (show ¬ nI t = 3 from by rw [L3]; exact neI (by omega) (by omega) (by omega)), M_fails F v1 2 k9 k12, bd_s, M_stepB F _ e9 (by omega) (by omega), bd_s]
/-- seven hearings are too many -/
theorem dock_full (F : Nat) {b : Nat → Nat} {n p G : Nat} {R : Nat → Nat} {rc rj dt h5 h6 p1 e1 vu : Nat} {u v u1 v1 : St} (sX : Int32 → St → Option (Int32 × St)) (hT : TR b n R rc rj dt h5 h6 u1 v1) (hK : Tok b n 2 p1 e1 vu u1 v1) (fX : FrX u u1) (fM : FrM v v1) (hh : R 55 = 6) : Out b n p (bX2_takesDocket_29 F (jX2_takesDocket_58 F) sX (nI 6) u1) (bd (bX7_readDocket_0 F (lp0 (bX7_readDocket_0 F) (G + 1)) v1) (fun (_ : Unit) (w : St) => mtail F w)) u v := by
  obtain ⟨k1, k2, k3, k4, k5, k20, k21, k22, k23, k13, k12, k11, k14, k9⟩ := hK
  obtain ⟨t1, t2, t3, t4, t5, t6, ⟨t7, t8⟩, t9, t10, t11, t12, t13, t14⟩ := hT
  have h15 : u1.1 15 = nI 6 := by have := t6.2.2.2.1; rw [hh] at this; exact this
  have t55 : Int32.toNatClampNeg 55 = 55 := by decide +kernel
  have g55 : inb 55 68 = true := by decide +kernel
  have e9 : (stf (stf v1 9 5) 10 (nI p1)).1 9 = nI 5 := by rw [sf_n _ _ _ (by omega), sf_k]; rfl
  have n1 := t1.1
  have eX : bX2_takesDocket_29 F (jX2_takesDocket_58 F) sX (nI 6) u1 = some (0, stf u1 18 5) := by
    unfold bX2_takesDocket_29
    rw [L6, if_pos (show nI 6 ≤ nI 6 by decide), jdock F (t := 2) (h := 6) u1 h15 k20 (by omega) (by omega), if_neg (by omega)]
  have eM : bX7_readDocket_0 F (lp0 (bX7_readDocket_0 F) (G + 1)) v1 = some ((), stf (stf v1 9 5) 10 (nI p1)) := by
    have : bX7_readDocket_0 F (lp0 (bX7_readDocket_0 F) (G + 1)) v1 = lp0 (bX7_readDocket_0 F) (G + 1) (stf (stf v1 9 5) 10 (nI p1)) := by
      rw [bX7_readDocket_0]
      rw [k9, if_pos (show nI 0 = 0 from rfl), k13, if_pos (show nI 2 = 2 from rfl), g55, gd_true, t55, t9 55 (by omega), hh, if_pos (show nI 6 = 6 from rfl), M_fails F v1 5 k9 k12, bd_s]
    rw [this, lp0_s]
    exact dockM_bad F _ _ e9 (by omega) (by omega)
  rw [eX, eM, bd_s, mtailB F _ e9 (by omega) (by omega)]
  exact Or.inr ⟨5, p1, _, _, rfl, rfl, ⟨by omega, by omega, by omega, Or.inl (by rw [sf_k]; rfl), by rw [sf_n _ _ _ (by omega)]; exact k21, e9, by rw [sf_k]⟩, fX.sf (by omega) _, (fM.sf (by omega) _).sf (by omega) _⟩
/-- the reference stops when a hearing cannot be told -/
theorem dock_badM (F : Nat) {b : Nat → Nat} {n p G k q : Nat} {u v : St} (u2 w2 : St) (hx : Bad k q u2 w2) (fX : FrX u u2) (fM : FrM v w2) : Out b n p (some (0, u2)) (bd (lp0 (bX7_readDocket_0 F) (G + 1) w2) (fun (_ : Unit) (w : St) => mtail F w)) u v := by
  obtain ⟨x1, x2, x3, x4, x5, x6, x7⟩ := hx
  rw [lp0_s, dockM_bad F _ w2 x6 x1 x2, bd_s, mtailB F _ x6 x1 x2]
  exact Or.inr ⟨k, q, u2, w2, rfl, rfl, ⟨x1, x2, x3, x4, x5, x6, x7⟩, fX, fM⟩
theorem Bad.dk {k q : Nat} {u w : St} (h : Bad k q u w) (a c j h5 h6 : Nat) : Bad k q u (dkW w a c j h5 h6) := by
  obtain ⟨x1, x2, x3, x4, x5, x6, x7⟩ := h
  exact ⟨x1, x2, x3, x4, x5, by rw [dkW_9 _ _ _ _ _ _ (by omega) (by omega)]; exact x6, by rw [dkW_9 _ _ _ _ _ _ (by omega) (by omega)]; exact x7⟩
theorem fbM.lo {v w : St} (f : fbM v w) : ∀ k, k < 9 → w.1 k = v.1 k := fun k hk => f.1 k (by omega)
theorem numLo (F : Nat) (hF : 200 ≤ F) {b : Nat → Nat} {n t p e vl lo hi : Nat} (u v : St) (hX : TpX b n u) (hM : TpM b n v) (hK : Tok b n t p e vl u v) (hl : lo < 1000) (hh : hi < 1000) {x : Int32} {v' : St} (g : pX7_number F (nI lo) (nI hi) v = some (x, v')) : (∀ k, k < 9 → v'.1 k = v.1 k) ∧ v'.2 = v.2 := by
  rw [M_num F u v hK hl hh] at g
  by_cases c : t = 2 ∧ lo ≤ vl ∧ vl ≤ hi
  · rw [if_pos c] at g
    obtain ⟨k1, k2, k3, k4, k5, k20, k21, k22, k23, k13, k12, k11, k14, k9⟩ := hK
    rcases next2 F hF u v hX hM k3 k22 k11 k9 with ⟨t2', p2, e2, vu2, u2, v2, g1, g2, g3, g4, g5, g6⟩ | ⟨q, u2, v2, g1, g2, g3, g5, g6⟩
    · rw [g2, bd_s] at g
      have := congrArg Prod.snd (Option.some.inj g)
      have h2 : v2 = v' := this
      rw [← h2]
      exact ⟨fun k hk => g6.1 k (by omega), g6.2⟩
    · rw [g2, bd_s] at g
      have := congrArg Prod.snd (Option.some.inj g)
      have h2 : v2 = v' := this
      rw [← h2]
      exact ⟨fun k hk => g6.1 k (by omega), g6.2⟩
  · rw [if_neg c] at g
    have := congrArg Prod.snd (Option.some.inj g)
    have h2 : stf (stf v 9 (if t = 2 then 3 else 2)) 10 (nI p) = v' := this
    rw [← h2]
    exact ⟨fun k hk => by rw [sf_n _ _ _ (by omega), sf_n _ _ _ (by omega)], rfl⟩
theorem dock_one (F : Nat) (hF : 200 ≤ F) {b : Nat → Nat} {n p h : Nat} {R : Nat → Nat} {rc rj h5 h6 p1 e1 vu : Nat} {u v u1 v1 : St} (sX : Int32 → St → Option (Int32 × St)) (G : Nat) (hT : TR b n R rc rj 1 h5 h6 u1 v1) (hZ : Z0 R (2 * rc)) (hK : Tok b n 2 p1 e1 vu u1 v1) (hp : p < e1) (fX : FrX u u1) (fM : FrM v v1) (h55 : R 55 = h) (hh : h < 6) (next : ∀ (R' : Nat → Nat) (h5' h6' t' p' e' vu' : Nat) (u' v' : St), TR b n R' rc rj 1 h5' h6' u' v' → R' 55 = h + 1 → Z0 R' (2 * rc) → Tok b n t' p' e' vu' u' v' → p < e' → FrX u u' → FrM v v' → Out b n p (sX (nI (h + 1)) u') (bd (lp0 (bX7_readDocket_0 F) (G + 1) v') (fun (_ : Unit) (w : St) => mtail F w)) u v) : Out b n p (bX2_takesDocket_29 F (jX2_takesDocket_58 F) sX (nI h) u1) (bd (bX7_readDocket_0 F (lp0 (bX7_readDocket_0 F) (G + 1)) v1) (fun (_ : Unit) (w : St) => mtail F w)) u v := by
  have hK' := hK
  have hT' := hT
  obtain ⟨k1, k2, k3, k4, k5, k20, k21, k22, k23, k13, k12, k11, k14, k9⟩ := hK
  obtain ⟨t1, t2, ⟨q1, q2, q3, q4⟩, t4, t5, t6, ⟨t7, t8⟩, t9, t10, t11, t12, t13, t14⟩ := hT
  have i5 := t5.1
  have i6 := t5.2.1
  have n1 := t1.1
  have h15 : u1.1 15 = nI h := by have := t6.2.2.2.1; rw [h55] at this; exact this
  have h5v : v1.2 2 55 = nI h := by rw [t9 55 (by omega), h55]
  have eX : bX2_takesDocket_29 F (jX2_takesDocket_58 F) sX (nI h) u1 = bd (pX2_takesHearing F u1) (fun (r11 : Int32) (u10 : St) => if r11 = 0 then some (0, u10) else (sX (nI (h + 1)) u10)) := by
    unfold bX2_takesDocket_29
    rw [L6, ifle (by omega) (by omega), if_neg (by omega), k20, if_pos (show nI 2 = 2 from rfl), nI_s]
  have eH : pX2_takesHearing F u1 = bd (pX2_isNumberIn F 0 3 u1) (fun (r2 : Int32) (u1 : St) => if r2 = 0 then some (0, u1) else vl (u1.1 23) (fun v3 => bd (pX2_readsNumber F 0 2 u1) (fun (r5 : Int32) (u4 : St) => if r5 = 0 then some (0, u4) else bd (pX0_addHearing F 3 v3 (u4.1 23) u4) (fun (r7 : Int32) (u6 : St) => bd (pX2_readsNext F u6) (fun (r9 : Int32) (u8 : St) => gd (z01 r9) (some (r9, u8))))))) := by
    rfl
  have c1 : pX2_isNumberIn F 0 3 u1 = if 0 ≤ vu ∧ vu ≤ 3 then some (1, u1) else some (0, stf u1 18 3) := X_isNum F (lo := 0) (hi := 3) u1 (k23 rfl) (by omega) (by omega) (by omega)
  have d1 : pX7_number F 0 3 v1 = if 2 = 2 ∧ 0 ≤ vu ∧ vu ≤ 3 then bd (pX7_step F v1) (fun (_ : Unit) (u5 : St) => some (nI vu, u5)) else some (0, stf (stf v1 9 3) 10 (nI p1)) := M_num F (lo := 0) (hi := 3) u1 v1 hK' (by omega) (by omega)
  have mh : ∀ {c j : Nat} {w1 w2 : St}, c < 50 → j < 50 → pX7_number F 0 3 v1 = some (nI c, w1) → pX7_number F 0 2 w1 = some (nI j, w2) → (∀ k, k < 9 → w2.1 k = v1.1 k) → w2.2 = v1.2 → bX7_readDocket_0 F (lp0 (bX7_readDocket_0 F) (G + 1)) v1 = lp0 (bX7_readDocket_0 F) (G + 1) (dkW w2 h c j h5 h6) := fun hc hj m1 m2 f1 f2 => M_hearing F (p := p1) (lp0 (bX7_readDocket_0 F) (G + 1)) v1 k9 (by rw [k13]) h5v hh t13 t14 (by omega) (by omega) hc hj m1 m2 f1 f2
  rw [eX, eH]
  by_cases z : vu ≤ 3
  · rw [if_pos ⟨by omega, z⟩] at c1
    rw [if_pos ⟨rfl, by omega, z⟩] at d1
    rw [c1, bd_s, i10, vl_e, k23 rfl, X_rnum]
    rcases next2 F hF u1 v1 t1 t2 k3 k22 k11 k9 with ⟨t2', p2, e2, vu2, u2, v2, g1, g2, g3, g4, g5, g6⟩ | ⟨q, u2, v2, g1, g2, g3, g5, g6⟩
    · rw [g2, bd_s] at d1
      rw [g1, bd_s, i10]
      rcases chkT F (lo := 0) (hi := 2) u2 v2 (g5.fr.tp t1) g3 (by omega) (by omega) with ⟨a1, a2, a3, a4, a5⟩ | ⟨k, u3, v3, a1, a2, a3, a4, a5⟩
      · have a4' : chk F 0 2 u2 = some (1, u2) := a4
        have a5' : pX7_number F 0 2 v2 = bd (pX7_step F v2) (fun (_ : Unit) (u5 : St) => some (nI vu2, u5)) := a5
        have hT2 := hT'.ft g5 g6
        have w15 : u2.1 15 = nI h := (g5.1 15 (by omega)).trans h15
        have g3' := g3
        obtain ⟨j1, j2, j3, j4, j5, j20, j21, j22, j23, j13, j12, j11, j14, j9⟩ := g3
        have hT3 : TR b n (hrP R h vu vu2) rc rj 1 (max h5 (vu + 1)) (max h6 (vu2 + 1)) (stf (sta (sta u2 50 (nI h) (nI vu)) 51 (nI h) (nI vu2)) 15 (nI (h + 1))) (dkW v2 h vu vu2 h5 h6) := hT'.hear h55 hh z a3 g5 g6
        rw [a4', bd_s, i10, j23 a1, X_addH F u2 w15 hh, bd_s]
        have fX2 : FrX u (stf (sta (sta u2 50 (nI h) (nI vu)) 51 (nI h) (nI vu2)) 15 (nI (h + 1))) := (((fX.tr g5.fr).st (by omega) _ _).st (by omega) _ _).sf (by omega) _
        -- the reference steps before it writes
        rcases next2 F hF (stf (sta (sta u2 50 (nI h) (nI vu)) 51 (nI h) (nI vu2)) 15 (nI (h + 1))) v2 hT3.1 hT2.2.1 j3 (by rw [sf_n _ _ _ (by omega)]; exact j22) j11 j9 with ⟨t3', p3, e3, vu3, u3, v3, s1, s2, s3, s4, s5, s6⟩ | ⟨q, u3, v3, s1, s2, s3, s5, s6⟩
        · rw [s2, bd_s] at a5'
          rw [mh (by omega) (by omega) d1 a5' (fun k hk => (s6.1 k (by omega)).trans (g6.1 k (by omega))) (s6.2.trans g6.2), s1, bd_s, z01_1, gd_true, bd_s, i10]
          refine next (hrP R h vu vu2) (max h5 (vu + 1)) (max h6 (vu2 + 1)) t3' p3 e3 vu3 u3 (dkW v3 h vu vu2 h5 h6) ?_ (hrP_55 _ _ _ _) (fun f f1 f2 => by rw [hrP_lo R h vu vu2 (by omega)]; exact hZ f f1 f2) ?_ (by have := s3.2.1; omega) (fX2.tr s5.fr) (dkW_f ((fM.tr g6.fr).tr s6.fr) _ _ _ _ _)
          · have hT4 := hT'.hear (x := vu) (y := vu2) h55 hh z a3 g5 (⟨fun k hk => (s6.1 k hk).trans (g6.1 k hk), s6.2.trans g6.2⟩ : ftM v1 v3)
            exact hT4.ft s5 ⟨fun _ _ => rfl, rfl⟩
          · obtain ⟨r1, r2, r3, r4, r5, r20, r21, r22, r23, r13, r12, r11, r14, r9⟩ := s3
            exact ⟨r1, r2, r3, r4, r5, r20, r21, r22, r23, (dkW_9 _ _ _ _ _ _ (by omega) (by omega)).trans r13, (dkW_9 _ _ _ _ _ _ (by omega) (by omega)).trans r12, (dkW_9 _ _ _ _ _ _ (by omega) (by omega)).trans r11, (dkW_9 _ _ _ _ _ _ (by omega) (by omega)).trans r14, (dkW_9 _ _ _ _ _ _ (by omega) (by omega)).trans r9⟩
        · rw [s2, bd_s] at a5'
          rw [mh (by omega) (by omega) d1 a5' (fun k hk => (s6.1 k (by omega)).trans (g6.1 k (by omega))) (s6.2.trans g6.2), s1, bd_s, z01_0, gd_true, bd_s, i00]
          exact dock_badM F u3 _ (s3.dk _ _ _ _ _) (fX2.tr s5.fr) (dkW_f ((fM.tr g6.fr).tr s6.fr) _ _ _ _ _)
      · have a1' : chk F 0 2 u2 = some (0, u3) := a1
        have a2' : pX7_number F 0 2 v2 = some (nI 0, v3) := a2
        obtain ⟨f1, f2⟩ := numLo F hF u2 v2 (g5.fr.tp t1) (g6.fr.tp t2) g3 (by omega) (by omega) a2
        rw [a1', bd_s, i00, bd_s, i00, mh (c := vu) (j := 0) (by omega) (by omega) d1 a2' (fun k hk => (f1 k hk).trans (g6.1 k (by omega))) (f2.trans g6.2)]
        exact dock_badM F u3 _ (a3.dk _ _ _ _ _) ((fX.tr g5.fr).tr a4) (dkW_f ((fM.tr g6.fr).tr a5) _ _ _ _ _)
    · rw [g2, bd_s] at d1
      rw [g1, bd_s, i00, bd_s, i00, mh (c := vu) (j := 0) (by omega) (by omega) d1 (M_numB F v2 0 2 g3.2.2.2.2.2.1 g3.1 g3.2.1) (fun k hk => g6.1 k (by omega)) g6.2]
      exact dock_badM F u2 _ (g3.dk _ _ _ _ _) (fX.tr g5.fr) (dkW_f (fM.tr g6.fr) _ _ _ _ _)
  · rw [if_neg (by omega)] at c1
    rw [if_neg (by omega)] at d1
    have e9 : (stf (stf v1 9 3) 10 (nI p1)).1 9 = nI 3 := by rw [sf_n _ _ _ (by omega), sf_k]; rfl
    have d1' : pX7_number F 0 3 v1 = some (nI 0, stf (stf v1 9 3) 10 (nI p1)) := d1
    rw [c1, bd_s, i00, bd_s, i00, mh (c := 0) (j := 0) (by omega) (by omega) d1' (M_numB F _ 0 2 e9 (by omega) (by omega)) (fun k hk => by rw [sf_n _ _ _ (by omega), sf_n _ _ _ (by omega)]) rfl]
    have hb : Bad 3 p1 (stf u1 18 3) (stf (stf v1 9 3) 10 (nI p1)) := ⟨by omega, by omega, by omega, Or.inl (by rw [sf_k]; rfl), by rw [sf_n _ _ _ (by omega)]; exact k21, e9, by rw [sf_k]⟩
    exact dock_badM F _ _ (hb.dk _ _ _ _ _) (fX.sf (by omega) _) (dkW_f ((fM.sf (by omega) _).sf (by omega) _) _ _ _ _ _)
theorem dock_loop (F : Nat) (hF : 200 ≤ F) {b : Nat → Nat} {n p rc rj : Nat} {u v : St} : ∀ (k h G G' : Nat) (R : Nat → Nat) (h5 h6 t p1 e1 vu : Nat) (u1 v1 : St), h + k = 6 → k < G → k + 1 < G' → TR b n R rc rj 1 h5 h6 u1 v1 → R 55 = h → Z0 R (2 * rc) → Tok b n t p1 e1 vu u1 v1 → p < e1 → FrX u u1 → FrM v v1 → Out b n p (lq1 (bX2_takesDocket_29 F (jX2_takesDocket_58 F)) G (nI h) u1) (bd (lp0 (bX7_readDocket_0 F) G' v1) (fun (_ : Unit) (w : St) => mtail F w)) u v := by
  intro k
  induction k with
  | zero =>
    intro h G G' R h5 h6 t p1 e1 vu u1 v1 hk hG hG' hT h55 hZ hK hp fX fM
    obtain ⟨G1, rfl⟩ : ∃ G1, G = G1 + 1 := ⟨G - 1, by omega⟩
    obtain ⟨G2, rfl⟩ : ∃ G2, G' = G2 + 1 + 1 := ⟨G' - 2, by omega⟩
    have e6 : h = 6 := by omega
    rw [e6, lp0_s]
    show Out b n p (bX2_takesDocket_29 F (jX2_takesDocket_58 F) (lq1 (bX2_takesDocket_29 F (jX2_takesDocket_58 F)) G1) (nI 6) u1) _ u v
    by_cases ht : t = 2
    · rw [ht] at hK
      exact dock_full F _ hT hK fX fM (by omega)
    · exact dock_stop F hF _ _ hT hZ hK hp fX fM ht (by omega)
  | succ k ih =>
    intro h G G' R h5 h6 t p1 e1 vu u1 v1 hk hG hG' hT h55 hZ hK hp fX fM
    obtain ⟨G1, rfl⟩ : ∃ G1, G = G1 + 1 := ⟨G - 1, by omega⟩
    obtain ⟨G2, rfl⟩ : ∃ G2, G' = G2 + 1 + 1 := ⟨G' - 2, by omega⟩
    rw [lp0_s]
    show Out b n p (bX2_takesDocket_29 F (jX2_takesDocket_58 F) (lq1 (bX2_takesDocket_29 F (jX2_takesDocket_58 F)) G1) (nI h) u1) _ u v
    by_cases ht : t = 2
    · rw [ht] at hK
      exact dock_one F hF _ _ hT hZ hK hp fX fM h55 (by omega) (fun R' h5' h6' t' p' e' vu' u' v' a1 a2 a3 a4 a5 a6 a7 => ih (h + 1) G1 (G2 + 1) R' h5' h6' t' p' e' vu' u' v' (by omega) (by omega) (by omega) a1 a2 a3 a4 a5 a6 a7)
    · exact dock_stop F hF _ _ hT hZ hK hp fX fM ht (by omega)
