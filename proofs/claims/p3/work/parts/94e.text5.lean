/-! PURE: text: what is told so far -/
def BD (R : Nat → Nat) (rc rj : Nat) : Prop := R 46 ≤ 4 ∧ R 55 ≤ 6 ∧ (∀ f, f < 2 * rc → R f ≤ 3 ∧ R (8 + f) ≤ 99 ∧ R (16 + f) ≤ 9) ∧ (∀ k, 24 ≤ k → k < 40 → R k = 0) ∧ (∀ j, j < rj → R (40 + j) ≤ 3 ∧ 1 ≤ R (43 + j) ∧ R (43 + j) ≤ 9) ∧ (∀ i, i < R 46 → R (47 + i) ≤ 20 ∧ 1 ≤ R (51 + i) ∧ R (51 + i) ≤ 9) ∧ (∀ i, i < R 55 → R (56 + i) ≤ 3 ∧ R (62 + i) ≤ 2)
def HI (R : Nat → Nat) (h5 h6 : Nat) : Prop := h5 ≤ 4 ∧ h6 ≤ 3 ∧ (∀ i, i < R 55 → R (56 + i) < h5 ∧ R (62 + i) < h6) ∧ (h5 = 0 ∨ ∃ i, i < R 55 ∧ R (56 + i) + 1 = h5) ∧ (h6 = 0 ∨ ∃ i, i < R 55 ∧ R (62 + i) + 1 = h6)
def Z0 (R : Nat → Nat) (m : Nat) : Prop := ∀ f, m ≤ f → f < 8 → R (16 + f) = 0
def TR (b : Nat → Nat) (n : Nat) (R : Nat → Nat) (rc rj dt h5 h6 : Nat) (u v : St) : Prop := TpX b n u ∧ TpM b n v ∧ (rc ≤ 4 ∧ rj ≤ 3 ∧ dt ≤ 1 ∧ (dt = 0 → R 55 = 0)) ∧ BD R rc rj ∧ HI R h5 h6 ∧ CtX 3 rc rj R u ∧ (u.1 18 = nI 0 ∧ u.1 19 = nI dt) ∧ (∀ k, k < 68 → v.2 2 k = nI (R k)) ∧ v.1 2 = nI rc ∧ v.1 3 = nI rj ∧ v.1 4 = nI dt ∧ v.1 5 = nI h5 - 1 ∧ v.1 6 = nI h6 - 1
theorem TR.ft {b : Nat → Nat} {n : Nat} {R : Nat → Nat} {rc rj dt h5 h6 : Nat} {u v u' v' : St} (h : TR b n R rc rj dt h5 h6 u v) (e : ftX u u') (f : ftM v v') : TR b n R rc rj dt h5 h6 u' v' := by
  obtain ⟨t1, t2, t3, t4, t5, t6, ⟨t7, t8⟩, t9, t10, t11, t12, t13, t14⟩ := h
  exact ⟨e.fr.tp t1, f.fr.tp t2, t3, t4, t5, t6.frj (fun i hi => e.1 _ (by omega)) (fun i hi => by rw [e.2]), ⟨(e.1 18 (by omega)).trans t7, (e.1 19 (by omega)).trans t8⟩, fun k hk => by rw [f.2]; exact t9 k hk, (f.1 2 (by omega)).trans t10, (f.1 3 (by omega)).trans t11, (f.1 4 (by omega)).trans t12, (f.1 5 (by omega)).trans t13, (f.1 6 (by omega)).trans t14⟩
/-- how a line ends: both go on, or both have stopped -/
def Out (b : Nat → Nat) (n p : Nat) (x : Option (Int32 × St)) (m : Option (Unit × St)) (u v : St) : Prop :=
  (∃ (R : Nat → Nat) (rc rj dt h5 h6 t p' e vu : Nat) (u' v' : St), x = some (1, u') ∧ m = some ((), v') ∧ TR b n R rc rj dt h5 h6 u' v' ∧ Z0 R (2 * rc) ∧ Tok b n t p' e vu u' v' ∧ p < p' ∧ FrX u u' ∧ FrM v v') ∨
  (∃ (k q : Nat) (u' v' : St), x = some (0, u') ∧ m = some ((), v') ∧ Bad k q u' v' ∧ FrX u u' ∧ FrM v v')
theorem Out.z {b : Nat → Nat} {n p : Nat} {x : Option (Int32 × St)} {m : Option (Unit × St)} {u v : St} (h : Out b n p x m u v) : Out b n p (bd x (fun (r : Int32) (w : St) => gd (z01 r) (some (r, w)))) m u v := by
  rcases h with ⟨R, rc, rj, dt, h5, h6, t, p', e, vu, u', v', rfl, g⟩ | ⟨k, q, u', v', rfl, g⟩
  · exact Or.inl ⟨R, rc, rj, dt, h5, h6, t, p', e, vu, u', v', by rw [bd_s, z01_1, gd_true], g⟩
  · exact Or.inr ⟨k, q, u', v', by rw [bd_s, z01_0, gd_true], g⟩
theorem Out.w {b : Nat → Nat} {n p : Nat} {x : Option (Int32 × St)} {m : Option (Unit × St)} {u v : St} (h : Out b n p x m u v) : Out b n p (bd x (fun (r : Int32) (w : St) => if r = 0 then some (0, w) else some (1, w))) m u v := by
  rcases h with ⟨R, rc, rj, dt, h5, h6, t, p', e, vu, u', v', rfl, g⟩ | ⟨k, q, u', v', rfl, g⟩
  · exact Or.inl ⟨R, rc, rj, dt, h5, h6, t, p', e, vu, u', v', by rw [bd_s, i10], g⟩
  · exact Or.inr ⟨k, q, u', v', by rw [bd_s, i00], g⟩
/-- the end of a line at the reference -/
def mtail (F : Nat) (v : St) : Option (Unit × St) := if (v.1 9) = 0 then if (v.1 13) = 3 then bd (pX7_step F v) (fun (_ : Unit) (u13 : St) => some ((), u13)) else bd (pX7_fails F 2 v) (fun (_ : Unit) (u14 : St) => bd (pX7_step F u14) (fun (_ : Unit) (u13 : St) => some ((), u13))) else bd (pX7_step F v) (fun (_ : Unit) (u13 : St) => some ((), u13))
theorem mtailB (F : Nat) {k : Nat} (v : St) (h : v.1 9 = nI k) (h0 : 0 < k) (h1 : k < 10) : mtail F v = some ((), v) := by
  unfold mtail
  rw [h, if_neg (n0f (by omega) (by omega)), M_stepB F v h h0 h1, bd_s]
theorem signOut (F : Nat) (hF : 200 ≤ F) {b : Nat → Nat} {n p : Nat} {R : Nat → Nat} {rc rj dt h5 h6 t p1 e1 vu : Nat} {u v u1 v1 : St} (hT : TR b n R rc rj dt h5 h6 u1 v1) (hZ : Z0 R (2 * rc)) (hK : Tok b n t p1 e1 vu u1 v1) (hp : p < e1) (fX : FrX u u1) (fM : FrM v v1) : Out b n p (pX2_takesSign F u1) (mtail F v1) u v := by
  have hK' := hK
  obtain ⟨k1, k2, k3, k4, k5, k20, k21, k22, k23, k13, k12, k11, k14, k9⟩ := hK
  have n1 := hT.1.1
  unfold pX2_takesSign mtail
  rw [k20, k13, k9, if_pos (show nI 0 = 0 from rfl), L3, ifeq (by omega) (by omega), ifeq (by omega) (by omega)]
  by_cases ht : t = 3
  · rw [if_pos ht, if_pos ht]
    rcases next2 F hF u1 v1 hT.1 hT.2.1 k3 k22 k11 k9 with ⟨t2, p2, e2, vl2, u2, v2, g1, g2, g3, g4, g5, g6⟩ | ⟨q, u2, v2, g1, g2, g3, g5, g6⟩
    · exact Or.inl ⟨R, rc, rj, dt, h5, h6, t2, p2, e2, vl2, u2, v2, by rw [g1, bd_s, z01_1, gd_true], by rw [g2, bd_s], hT.ft g5 g6, hZ, g3, by omega, fX.tr g5.fr, fM.tr g6.fr⟩
    · exact Or.inr ⟨1, q, u2, v2, by rw [g1, bd_s, z01_0, gd_true], by rw [g2, bd_s], g3, fX.tr g5.fr, fM.tr g6.fr⟩
  · rw [if_neg ht, if_neg ht]
    have e9 : (stf (stf v1 9 2) 10 (nI p1)).1 9 = nI 2 := by rw [sf_n _ _ _ (by omega), sf_k]; rfl
    refine Or.inr ⟨2, p1, stf u1 18 2, stf (stf v1 9 2) 10 (nI p1), ?_, ?_, ⟨by omega, by omega, by omega, Or.inl (by rw [sf_k]; rfl), by rw [sf_n _ _ _ (by omega)]; exact k21, e9, by rw [sf_k]⟩, fX.sf (by omega) _, (fM.sf (by omega) _).sf (by omega) _⟩
    · unfold pX2_fails
      rw [vl_e, bd_s, z01_0, gd_true]
    · rw [M_fails F v1 2 k9 k12, bd_s, M_stepB F _ e9 (by omega) (by omega), bd_s]
/-! the docket -/
theorem hi_up {c h : Nat} (hc : c < 100) (hh : h < 100) {α : Type} (f : Int32 → α) : (if nI c ≤ nI h - 1 then f (nI h - 1) else f (nI c)) = f (nI (max h (c + 1)) - 1) := by
  have e : (nI h - 1).toInt = (h : Int) - 1 := subL (by omega)
  by_cases q : c + 1 ≤ h
  · rw [if_pos (by rw [Int32.le_iff_toInt_le, e, tI (by omega)]; omega), Nat.max_eq_left q]
  · rw [if_neg (by rw [Int32.le_iff_toInt_le, e, tI (by omega)]; omega), Nat.max_eq_right (by omega), show nI (c + 1) - 1 = nI c from by rw [L1, subI (by omega)]; rfl]
def dkW (w : St) (h c j h5 h6 : Nat) : St := sta (sta (sta (stf (stf w 5 (nI (max h5 (c + 1)) - 1)) 6 (nI (max h6 (j + 1)) - 1)) 2 (nI (56 + h)) (nI c)) 2 (nI (62 + h)) (nI j)) 2 (nI 55) (nI (h + 1))
theorem dkW_9 (w : St) (h c j h5 h6 : Nat) {k : Nat} (hk : k ≠ 5) (hk2 : k ≠ 6) : (dkW w h c j h5 h6).1 k = w.1 k := by
  unfold dkW
  rw [sta_1, sta_1, sta_1, sf_n _ _ _ hk2, sf_n _ _ _ hk]
theorem dkW_f {v w : St} (f : FrM v w) (h c j h5 h6 : Nat) : FrM v (dkW w h c j h5 h6) := (((((f.sf (by omega) _).sf (by omega) _).st _ _).st _ _).st _ _)
/-- the reference's number of a hearing, from the two numbers on -/
theorem M_hearing (F : Nat) {p h h5 h6 : Nat} (self : St → Option (Unit × St)) (v : St) (h9 : v.1 9 = nI 0) (h13 : v.1 13 = nI 2) (h55 : v.2 2 55 = nI h) (hh : h < 6) (v5 : v.1 5 = nI h5 - 1) (v6 : v.1 6 = nI h6 - 1) (b5 : h5 < 100) (b6 : h6 < 100) {c j : Nat} {w1 w2 : St} (hc : c < 50) (hj : j < 50) (n1 : pX7_number F 0 3 v = some (nI c, w1)) (n2 : pX7_number F 0 2 w1 = some (nI j, w2)) (f1 : ∀ k, k < 9 → w2.1 k = v.1 k) (f2 : w2.2 = v.2) : bX7_readDocket_0 F self v = self (dkW w2 h c j h5 h6) := by
  have t55 : Int32.toNatClampNeg 55 = 55 := by decide +kernel
  have g55 : inb 55 68 = true := by decide +kernel
  have a56 : ∀ a, (56 : Int32) + nI a = nI (56 + a) := fun a => by rw [L56, nI_add]
  have s55 : ∀ w : St, w.2 = v.2 → w.2 2 55 = nI h := fun w hw => by rw [hw]; exact h55
  unfold bX7_readDocket_0
  rw [h9, if_pos (show nI 0 = 0 from rfl), h13, if_pos (show nI 2 = 2 from rfl), g55, gd_true, t55, h55, if_neg (show ¬ nI h = 6 from by rw [L6]; exact neI (by omega) (by omega) (by omega)), n1, bd_s, n2, bd_s]
  simp (implicitDefEqProofs := false) only [jn_e, vl_e]
  have e5 : w2.1 5 = nI h5 - 1 := (f1 5 (by omega)).trans v5
  have e6 : ∀ x, (stf w2 5 x).1 6 = nI h6 - 1 := fun x => by rw [sf_n _ _ _ (by omega)]; exact (f1 6 (by omega)).trans v6
  rw [e5]
  have body : ∀ x y : Int32, (gd (inb (56 + (stf (stf w2 5 x) 6 y).2 2 55) 68) (gd true (gd (inb (62 + (sta (stf (stf w2 5 x) 6 y) 2 (56 + (stf (stf w2 5 x) 6 y).2 2 55) (nI c)).2 2 55) 68) (gd true (gd true (self (sta (sta (sta (stf (stf w2 5 x) 6 y) 2 (56 + (stf (stf w2 5 x) 6 y).2 2 55) (nI c)) 2 (62 + (sta (stf (stf w2 5 x) 6 y) 2 (56 + (stf (stf w2 5 x) 6 y).2 2 55) (nI c)).2 2 55) (nI j)) 2 55 ((sta (sta (stf (stf w2 5 x) 6 y) 2 (56 + (stf (stf w2 5 x) 6 y).2 2 55) (nI c)) 2 (62 + (sta (stf (stf w2 5 x) 6 y) 2 (56 + (stf (stf w2 5 x) 6 y).2 2 55) (nI c)).2 2 55) (nI j)).2 2 55 + 1))))))) : Option (Unit × St)) = self (sta (sta (sta (stf (stf w2 5 x) 6 y) 2 (nI (56 + h)) (nI c)) 2 (nI (62 + h)) (nI j)) 2 (nI 55) (nI (h + 1))) := fun x y => by
    have z1 : (stf (stf w2 5 x) 6 y).2 2 55 = nI h := s55 _ f2
    have z2 : (sta (stf (stf w2 5 x) 6 y) 2 (nI (56 + h)) (nI c)).2 2 55 = nI h := by rw [sta_h _ _ (by omega), if_neg (by omega)]; exact z1
    have z3 : (sta (sta (stf (stf w2 5 x) 6 y) 2 (nI (56 + h)) (nI c)) 2 (nI (62 + h)) (nI j)).2 2 55 = nI h := by rw [sta_h _ _ (by omega), if_neg (by omega)]; exact z2
    rw [z1, a56, gd_i (by omega) (by omega), gd_true, z2, at62, gd_i (by omega) (by omega), gd_true, gd_true, z3, nI_s, show (55 : Int32) = nI 55 from by decide +kernel]
  simp (implicitDefEqProofs := false) only [e6, g55, t55, gd_true] at body ⊢
  by_cases q5 : nI c ≤ nI h5 - 1
  · have m5 := hi_up (c := c) (h := h5) (by omega) b5 (fun x => x)
    rw [if_pos q5] at m5
    rw [if_pos q5]
    by_cases q6 : nI j ≤ nI h6 - 1
    · have m6 := hi_up (c := j) (h := h6) (by omega) b6 (fun x => x)
      rw [if_pos q6] at m6
      rw [if_pos q6, body]
      unfold dkW
      rw [← m5, ← m6]
    · have m6 := hi_up (c := j) (h := h6) (by omega) b6 (fun x => x)
      rw [if_neg q6] at m6
      rw [if_neg q6, body]
      unfold dkW
      rw [← m5, ← m6]
  · have m5 := hi_up (c := c) (h := h5) (by omega) b5 (fun x => x)
    rw [if_neg q5] at m5
    rw [if_neg q5]
    by_cases q6 : nI j ≤ nI h6 - 1
    · have m6 := hi_up (c := j) (h := h6) (by omega) b6 (fun x => x)
      rw [if_pos q6] at m6
      rw [if_pos q6, body]
      unfold dkW
      rw [← m5, ← m6]
    · have m6 := hi_up (c := j) (h := h6) (by omega) b6 (fun x => x)
      rw [if_neg q6] at m6
      rw [if_neg q6, body]
      unfold dkW
      rw [← m5, ← m6]
