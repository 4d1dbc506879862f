/-! PURE: text: numbers, flames -/
def FrX (u u' : St) : Prop := (∀ k, (k < 12 ∨ k = 16 ∨ k = 17 ∨ 24 ≤ k) → u'.1 k = u.1 k) ∧ ∀ k, (k < 39 ∨ 51 < k) → u'.2 k = u.2 k
def FrM (v v' : St) : Prop := (∀ k, (k < 2 ∨ k = 7 ∨ k = 8 ∨ 15 ≤ k) → v'.1 k = v.1 k) ∧ ∀ k, k ≠ 2 → v'.2 k = v.2 k
theorem FrX.rf {u : St} : FrX u u := ⟨fun _ _ => rfl, fun _ _ => rfl⟩
theorem FrM.rf {v : St} : FrM v v := ⟨fun _ _ => rfl, fun _ _ => rfl⟩
theorem FrX.tr {u w x : St} (h : FrX u w) (h2 : FrX w x) : FrX u x := ⟨fun k q => (h2.1 k q).trans (h.1 k q), fun k q => (h2.2 k q).trans (h.2 k q)⟩
theorem FrM.tr {u w x : St} (h : FrM u w) (h2 : FrM w x) : FrM u x := ⟨fun k q => (h2.1 k q).trans (h.1 k q), fun k q => (h2.2 k q).trans (h.2 k q)⟩
theorem ftX.fr {u u' : St} (h : ftX u u') : FrX u u' := ⟨fun k q => h.1 k (by omega), fun k _ => by rw [h.2]⟩
theorem ftM.fr {v v' : St} (h : ftM v v') : FrM v v' := ⟨fun k q => h.1 k (by omega), fun k _ => by rw [h.2]⟩
theorem fbX.fr {u u' : St} (h : fbX u u') : FrX u u' := ⟨fun k q => h.1 k (by omega), fun k _ => by rw [h.2]⟩
theorem fbM.fr {v v' : St} (h : fbM v v') : FrM v v' := ⟨fun k q => h.1 k (by omega), fun k _ => by rw [h.2]⟩
theorem FrX.tp {b : Nat → Nat} {n : Nat} {u u' : St} (h : FrX u u') (hT : TpX b n u) : TpX b n u' := ⟨hT.1, (h.1 17 (by omega)).trans hT.2.1, fun i hi => by rw [h.2 54 (by omega)]; exact hT.2.2 i hi⟩
theorem FrM.tp {b : Nat → Nat} {n : Nat} {v v' : St} (h : FrM v v') (hT : TpM b n v) : TpM b n v' := hT.fr (h.1 7 (by omega)) (h.2 3 (by omega)) (h.2 4 (by omega)) (h.2 5 (by omega))
theorem FrX.st {u w : St} (h : FrX u w) {k : Nat} (hk : 39 ≤ k ∧ k ≤ 51) (i x : Int32) : FrX u (sta w k i x) := ⟨h.1, fun j hj => by rw [sta_m _ _ _ (by omega)]; exact h.2 j hj⟩
theorem FrM.st {u w : St} (h : FrM u w) (i x : Int32) : FrM u (sta w 2 i x) := ⟨h.1, fun j hj => by rw [sta_m _ _ _ (by omega)]; exact h.2 j hj⟩
theorem FrX.sf {u w : St} (h : FrX u w) {k : Nat} (hk : (12 ≤ k ∧ k ≤ 15) ∨ (18 ≤ k ∧ k ≤ 23)) (x : Int32) : FrX u (stf w k x) := ⟨fun j hj => by rw [stf_1, if_neg (by omega)]; exact h.1 j hj, h.2⟩
theorem FrM.sf {u w : St} (h : FrM u w) {k : Nat} (hk : (2 ≤ k ∧ k ≤ 6) ∨ (9 ≤ k ∧ k ≤ 14)) (x : Int32) : FrM u (stf w k x) := ⟨fun j hj => by rw [stf_1, if_neg (by omega)]; exact h.1 j hj, h.2⟩
/-- what the reference does once it has stopped -/
theorem M_stepB (F : Nat) {k : Nat} (v : St) (h : v.1 9 = nI k) (h0 : 0 < k) (h1 : k < 10) : pX7_step F v = some ((), v) := by
  unfold pX7_step
  rw [h, if_neg (show ¬ nI k ≤ 0 from by rw [L0]; exact nle h0 (by omega))]
theorem M_numB (F : Nat) {k : Nat} (v : St) (lo hi : Int32) (h : v.1 9 = nI k) (h0 : 0 < k) (h1 : k < 10) : pX7_number F lo hi v = some (lo, v) := by
  have e : ¬ v.1 9 = 0 := by rw [h]; exact n0f (by omega) (by omega)
  unfold pX7_number
  simp only [jn_e, if_neg e]
  rw [M_stepB F v h h0 h1, bd_s]
theorem M_flameB (F : Nat) {k : Nat} (v : St) (at_ : Int32) (h : v.1 9 = nI k) (h0 : 0 < k) (h1 : k < 10) : pX7_readFlame F at_ v = some ((), v) := by
  unfold pX7_readFlame
  simp only [jn_e]
  rw [h, if_neg (show ¬ nI k ≤ 0 from by rw [L0]; exact nle h0 (by omega)), show (3 : Int64) = lN 3 from by decide +kernel, l0, M_inbN F v (by omega) (by omega), bd_s, i00, M_failsN F v 2 h h0 h1, bd_s]
/-- a number is looked at: on both sides -/
def chk (F : Nat) (lo hi : Int32) (u : St) : Option (Int32 × St) := if (u.1 20) = 2 then bd (pX2_isNumberIn F lo hi u) (fun (r6 : Int32) (u5 : St) => gd (z01 r6) (some (r6, u5))) else bd (pX2_fails F 2 u) (fun (r4 : Int32) (u3 : St) => gd (z01 r4) (some (r4, u3)))
theorem X_rnum (F : Nat) (lo hi : Int32) (u : St) : pX2_readsNumber F lo hi u = bd (pX2_readsNext F u) (fun (r2 : Int32) (u1 : St) => if r2 = 0 then some (0, u1) else chk F lo hi u1) := rfl
theorem X_isNum (F : Nat) {lo hi vl : Nat} (u : St) (h : u.1 23 = nI vl) (hv : vl < 1000) (hl : lo < 1000) (hh : hi < 1000) : pX2_isNumberIn F (nI lo) (nI hi) u = if lo ≤ vl ∧ vl ≤ hi then some (1, u) else some (0, stf u 18 3) := by
  unfold pX2_isNumberIn pX2_fails
  rw [h, X_isIn, tI64, tI (by omega), tI (by omega), tI (by omega), bd_s]
  by_cases q : lo ≤ vl ∧ vl ≤ hi
  · rw [b01_t (by omega), i10, if_pos q]
  · rw [b01_f (by omega), i00, vl_e, bd_s, i00, if_neg q]
theorem M_num (F : Nat) {b : Nat → Nat} {n t p e vl lo hi : Nat} (u v : St) (hK : Tok b n t p e vl u v) (hl : lo < 1000) (hh : hi < 1000) : pX7_number F (nI lo) (nI hi) v = if t = 2 ∧ lo ≤ vl ∧ vl ≤ hi then bd (pX7_step F v) (fun (_ : Unit) (u5 : St) => some (nI vl, u5)) else some (nI lo, stf (stf v 9 (if t = 2 then 3 else 2)) 10 (nI p)) := by
  obtain ⟨k1, k2, k3, k4, k5, -, -, -, -, k13, k12, k11, k14, k9⟩ := hK
  have z9 : v.1 9 = 0 := k9
  unfold pX7_number
  simp only [jn_e]
  rw [z9, if_pos rfl, k13, L2, ifeq (by omega) (by omega)]
  by_cases ht : t = 2
  · rw [if_pos ht, if_pos rfl, k14, M_in, tI64, tI (by omega), tI64, tI64, tI (by omega), tI (by omega), bd_s]
    by_cases q : lo ≤ vl ∧ vl ≤ hi
    · rw [b01_t (by omega), i10, if_pos z9, k14, if_pos ⟨ht, q⟩]
    · have e9 : (stf (stf v 9 3) 10 (nI p)).1 9 = nI 3 := by rw [sf_n _ _ _ (by omega), sf_k]; rfl
      rw [b01_f (by omega), i00, M_fails F v 3 k9 k12, bd_s, e9, if_neg (show ¬ nI 3 = 0 by decide), M_stepB F _ e9 (by omega) (by omega), bd_s, if_neg (fun z => q z.2), if_pos ht]
  · have e9 : (stf (stf v 9 (nI 2)) 10 (nI p)).1 9 = nI 2 := by rw [sf_n _ _ _ (by omega), sf_k]
    rw [if_neg ht, M_fails F v (nI 2) k9 k12, bd_s, e9, if_neg (show ¬ nI 2 = 0 by decide), if_neg (show ¬ nI 2 = 0 by decide), M_stepB F _ e9 (by omega) (by omega), bd_s, if_neg (fun z => ht z.1), if_neg ht]
theorem chkT (F : Nat) {b : Nat → Nat} {n t p e vl lo hi : Nat} (u v : St) (hX : TpX b n u) (hK : Tok b n t p e vl u v) (hl : lo < 1000) (hh : hi < 1000) : (t = 2 ∧ lo ≤ vl ∧ vl ≤ hi ∧ chk F (nI lo) (nI hi) u = some (1, u) ∧ pX7_number F (nI lo) (nI hi) v = bd (pX7_step F v) (fun (_ : Unit) (u5 : St) => some (nI vl, u5))) ∨ (∃ k u' v', chk F (nI lo) (nI hi) u = some (0, u') ∧ pX7_number F (nI lo) (nI hi) v = some (nI lo, v') ∧ Bad k p u' v' ∧ FrX u u' ∧ FrM v v') := by
  have hm := M_num F (lo := lo) (hi := hi) u v hK hl hh
  have n1 := hX.1
  obtain ⟨k1, k2, k3, k4, k5, k20, k21, k22, k23, k13, k12, k11, k14, k9⟩ := hK
  unfold chk
  rw [k20, L2, ifeq (by omega) (by omega)]
  by_cases ht : t = 2
  · rw [if_pos ht, X_isNum F u (k23 ht) (by omega) hl hh]
    by_cases q : lo ≤ vl ∧ vl ≤ hi
    · rw [if_pos ⟨ht, q⟩] at hm
      rw [if_pos q, bd_s, z01_1, gd_true]
      exact Or.inl ⟨ht, q.1, q.2, rfl, hm⟩
    · rw [if_neg (fun z => q z.2), if_pos ht] at hm
      rw [if_neg q, bd_s, z01_0, gd_true]
      refine Or.inr ⟨3, _, _, rfl, hm, ⟨by omega, by omega, by omega, Or.inl (by rw [sf_k]; rfl), by rw [sf_n _ _ _ (by omega)]; exact k21, by rw [sf_n _ _ _ (by omega), sf_k]; rfl, by rw [sf_k]⟩, FrX.rf.sf (by omega) _, (FrM.rf.sf (by omega) _).sf (by omega) _⟩
  · rw [if_neg (fun z => ht z.1), if_neg ht] at hm
    unfold pX2_fails
    rw [if_neg ht, vl_e, bd_s, z01_0, gd_true]
    refine Or.inr ⟨2, _, _, rfl, hm, ⟨by omega, by omega, by omega, Or.inl (by rw [sf_k]), by rw [sf_n _ _ _ (by omega)]; exact k21, by rw [sf_n _ _ _ (by omega), sf_k]; rfl, by rw [sf_k]⟩, FrX.rf.sf (by omega) _, (FrM.rf.sf (by omega) _).sf (by omega) _⟩
/-- the name that stands: K, or 11 -/
theorem nameK (F : Nat) (hF : 200 ≤ F) {b : Nat → Nat} {n t p e vl : Nat} (u v : St) (hX : TpX b n u) (hM : TpM b n v) (hK : Tok b n t p e vl u v) : ∃ K, K ≤ 11 ∧ (∀ x, x < 11 → pX2_isNamed F x u = some (if xm x = K then 1 else 0, u)) ∧ pX7_nameHere F v = some (if K = 11 then -4 else nI K, v) := by
  have hxn := fun x hx => X_named F hF (x := x) u v hX hK hx
  rcases M_name2 F hF u v hM hK with ⟨k, k1, k2, k3⟩ | ⟨k2, k3⟩
  · refine ⟨k, by omega, fun x hx => ?_, by rw [if_neg (by omega)]; exact k3⟩
    rw [hxn x hx, k2 _ (xm_b x hx)]
    by_cases q : xm x = k
    · rw [if_pos q, if_pos (decide_eq_true q)]
    · rw [if_neg q, if_neg (by rw [decide_eq_false q]; decide)]
  · refine ⟨11, by omega, fun x hx => ?_, by rw [if_pos rfl]; exact k3⟩
    have := xm_b x hx
    rw [hxn x hx, k2 _ this, if_neg (by decide), if_neg (by omega)]
theorem X_kind (F : Nat) {K : Nat} (u : St) (hK : K ≤ 11) (h : ∀ x, x < 11 → pX2_isNamed F x u = some (if xm x = K then 1 else 0, u)) : pX2_kindNamed F u = some (if K < 4 then nI K else -4, u) := by
  unfold pX2_kindNamed
  rw [h 1 (by omega), bd_s, show xm 1 = 0 from rfl]
  by_cases h0 : K = 0
  · subst h0; rfl
  · rw [if_neg (show ¬ 0 = K by omega), i00, h 2 (by omega), bd_s, show xm 2 = 1 from rfl]
    by_cases h1 : K = 1
    · subst h1; rfl
    · rw [if_neg (show ¬ 1 = K by omega), i00, h 3 (by omega), bd_s, show xm 3 = 2 from rfl]
      by_cases h2 : K = 2
      · subst h2; rfl
      · rw [if_neg (show ¬ 2 = K by omega), i00, h 4 (by omega), bd_s, show xm 4 = 3 from rfl]
        by_cases h3 : K = 3
        · subst h3; rfl
        · rw [if_neg (show ¬ 3 = K by omega), i00, if_neg (by omega)]
theorem X_habit (F : Nat) {K : Nat} (u : St) (hK : K ≤ 11) (h : ∀ x, x < 11 → pX2_isNamed F x u = some (if xm x = K then 1 else 0, u)) : pX2_habitNamed F u = some (if 4 ≤ K ∧ K < 8 then nI (K - 4) else -4, u) := by
  unfold pX2_habitNamed
  rw [h 7 (by omega), bd_s, show xm 7 = 4 from rfl]
  by_cases h0 : K = 4
  · subst h0; rfl
  · rw [if_neg (show ¬ 4 = K by omega), i00, h 8 (by omega), bd_s, show xm 8 = 5 from rfl]
    by_cases h1 : K = 5
    · subst h1; rfl
    · rw [if_neg (show ¬ 5 = K by omega), i00, h 9 (by omega), bd_s, show xm 9 = 6 from rfl]
      by_cases h2 : K = 6
      · subst h2; rfl
      · rw [if_neg (show ¬ 6 = K by omega), i00, h 10 (by omega), bd_s, show xm 10 = 7 from rfl]
        by_cases h3 : K = 7
        · subst h3; rfl
        · rw [if_neg (show ¬ 7 = K by omega), i00, if_neg (by omega)]
/-- a flame: what stands in both afterwards -/
theorem flameT (F : Nat) (hF : 200 ≤ F) {b : Nat → Nat} {n t p e vu a : Nat} {R : Nat → Nat} (u v : St) (hX : TpX b n u) (hM : TpM b n v) (hK : Tok b n t p e vu u v) (ha : a < 8) (hR : ∀ k, k < 68 → v.2 2 k = nI (R k)) (h18 : u.1 18 = nI 0) (h16 : R (16 + a) = 0) :
    (∃ (R' : Nat → Nat) (t' p' e' vl' : Nat) (u' v' : St), pX2_takesFlame F (nI a) u = some (1, u') ∧ pX7_readFlame F (nI a) v = some ((), v') ∧ Tok b n t' p' e' vl' u' v' ∧ e ≤ p' ∧ (∀ k, k < 68 → v'.2 2 k = nI (R' k)) ∧ u'.1 18 = nI 0 ∧ (∀ k, k ≠ a → k ≠ 8 + a → k ≠ 16 + a → R' k = R k) ∧ (R' a ≤ 3 ∧ R' (8 + a) ≤ 99 ∧ R' (16 + a) ≤ 9) ∧ (u'.2 39 a = nI (R' a) ∧ u'.2 40 a = nI (R' (8 + a)) ∧ u'.2 41 a = nI (R' (16 + a))) ∧ (∀ k f, f ≠ a → u'.2 k f = u.2 k f) ∧ (∀ k, k ≠ 39 → k ≠ 40 → k ≠ 41 → u'.2 k = u.2 k) ∧ (∀ k, (k < 20 ∨ 23 < k) → u'.1 k = u.1 k) ∧ (∀ k, k < 9 → v'.1 k = v.1 k) ∧ FrX u u' ∧ FrM v v') ∨
    (∃ k q u' v', pX2_takesFlame F (nI a) u = some (0, u') ∧ pX7_readFlame F (nI a) v = some ((), v') ∧ Bad k q u' v' ∧ FrX u u' ∧ FrM v v') := by
  obtain ⟨K, hK11, hxn, hmn⟩ := nameK F hF u v hX hM hK
  have n1 := hX.1
  have hk := X_kind F u hK11 hxn
  have hK' := hK
  obtain ⟨k1, k2, k3, k4, k5, k20, k21, k22, k23, k13, k12, k11, k14, k9⟩ := hK
  have hin : pX7_in F (Int32.toInt64 (if K = 11 then -4 else nI K)) 0 3 v = some (b01 (K ≤ 3), v) := by
    rw [l0, show (3 : Int64) = lN 3 from by decide +kernel]
    by_cases q : K = 11
    · rw [if_pos q, M_inbN F v (by omega) (by omega), b01_f (by omega)]
    · rw [if_neg q, M_inb F (by omega) v (by omega) (by omega)]
      by_cases z : K ≤ 3
      · rw [b01_t z, b01_t ⟨by omega, z⟩]
      · rw [b01_f z, b01_f (by omega)]
  have hMh : pX7_readFlame F (nI a) v = if K ≤ 3 then gd (inb (nI a) 68) (vl (sta v 2 (nI a) (nI K)) (fun (u5 : St) => bd (pX7_step F u5) (fun (_ : Unit) (u6 : St) => bd (pX7_number F 0 99 u6) (fun (r8 : Int32) (u7 : St) => gd (inb (8 + nI a) 68) (vl (sta u7 2 (8 + nI a) r8) (fun (u9 : St) => if (u9.1 9) = 0 then if (u9.1 13) = 2 then bd (pX7_number F 0 9 u9) (fun (r11 : Int32) (u10 : St) => gd (inb (16 + nI a) 68) (vl (sta u10 2 (16 + nI a) r11) (fun (u12 : St) => some ((), u12)))) else some ((), u9) else some ((), u9))))))) else some ((), stf (stf v 9 2) 10 (nI p)) := by
    unfold pX7_readFlame
    simp only [jn_e]
    rw [k9, if_pos (show nI 0 ≤ 0 by decide), hmn, bd_s, hin, bd_s]
    by_cases z : K ≤ 3
    · rw [b01_t z, i10, if_pos z, if_neg (show ¬ K = 11 by omega)]
    · rw [b01_f z, i00, if_neg z, M_fails F v 2 k9 k12, bd_s]
  by_cases hK3 : K ≤ 3
  · rw [if_pos hK3, gd_i (by omega) (by omega), vl_e] at hMh
    have v1T : TpM b n (sta v 2 (nI a) (nI K)) := (FrM.rf.st _ _).tp hM
    have hX1 : pX2_takesFlame F (nI a) u = bd (pX2_readsNumber F 0 99 u) (fun (r4 : Int32) (u3 : St) => if r4 = 0 then some (0, u3) else gd (inb (nI a) 8) (vl (sta u3 39 (nI a) (nI K)) (fun (u5 : St) => gd (inb (nI a) 8) (vl (sta u5 40 (nI a) (u5.1 23)) (fun (u6 : St) => gd (inb (nI a) 8) (vl (sta u6 41 (nI a) 0) (fun (u7 : St) => bd (pX2_readsNext F u7) (fun (r9 : Int32) (u8 : St) => if r9 = 0 then some (0, u8) else if (u8.1 20) = 2 then gd (inb (nI a) 8) (vl (sta u8 41 (nI a) (u8.1 23)) (fun (u10 : St) => bd (pX2_isNumberIn F 0 9 u10) (fun (r12 : Int32) (u11 : St) => if r12 = 0 then some (0, u11) else bd (pX2_readsNext F u11) (fun (r14 : Int32) (u13 : St) => if r14 = 0 then some (0, u13) else some (1, u13))))) else some (1, u8))))))))) := by
      unfold pX2_takesFlame
      rw [hk, bd_s, if_pos (show K < 4 by omega), if_neg (m4_lt (by omega)).2.1]
    rcases next2 F hF u (sta v 2 (nI a) (nI K)) hX v1T k3 k22 k11 k9 with ⟨t1, p1, e1, vl1, u1, v1, g1, g2, g3, g4, g5, g6⟩ | ⟨q, u1, v1, g1, g2, g3, g5, g6⟩
    · have fX1 : FrX u u1 := g5.fr
      have fM1 : FrM v v1 := (FrM.rf.st _ _).tr g6.fr
      have hT1 := fX1.tp hX
      have hN1 := fM1.tp hM
      rcases chkT F (lo := 0) (hi := 99) u1 v1 hT1 g3 (by omega) (by omega) with ⟨c1, c2, c3, c4, c5⟩ | ⟨k, u2, v2, c1, c2, c3, c4, c5⟩
      · have c4' : chk F 0 99 u1 = some (1, u1) := c4
        have c5' : pX7_number F 0 99 v1 = bd (pX7_step F v1) (fun (_ : Unit) (u5 : St) => some (nI vl1, u5)) := c5
        obtain ⟨u2, hu2⟩ : ∃ u2, u2 = sta (sta (sta u1 39 (nI a) (nI K)) 40 (nI a) (nI vl1)) 41 (nI a) 0 := ⟨_, rfl⟩
        have fX2 : FrX u u2 := by rw [hu2]; exact ((fX1.st (by omega) _ _).st (by omega) _ _).st (by omega) _ _
        have hT2 := fX2.tp hX
        obtain ⟨j1, j2, j3, j4, j5, j20, j21, j22, j23, j13, j12, j11, j14, j9⟩ := g3
        have u21 : u2.1 = u1.1 := by rw [hu2]; rfl
        have hX2 : pX2_takesFlame F (nI a) u = bd (pX2_readsNext F u2) (fun (r9 : Int32) (u8 : St) => if r9 = 0 then some (0, u8) else if (u8.1 20) = 2 then gd (inb (nI a) 8) (vl (sta u8 41 (nI a) (u8.1 23)) (fun (u10 : St) => bd (pX2_isNumberIn F 0 9 u10) (fun (r12 : Int32) (u11 : St) => if r12 = 0 then some (0, u11) else bd (pX2_readsNext F u11) (fun (r14 : Int32) (u13 : St) => if r14 = 0 then some (0, u13) else some (1, u13))))) else some (1, u8)) := by
          rw [hX1, X_rnum, g1, bd_s, i10, c4', bd_s, i10, gd_i (by omega) (by omega), vl_e, gd_i (by omega) (by omega), vl_e, gd_i (by omega) (by omega), vl_e, sta_1, j23 c1, ← hu2]
        have o39 : u2.2 39 a = nI K := by rw [hu2, sta_m _ _ _ (by omega), sta_m _ _ _ (by omega), sta_h _ _ (by omega), if_pos rfl]
        have o40 : u2.2 40 a = nI vl1 := by rw [hu2, sta_m _ _ _ (by omega), sta_h _ _ (by omega), if_pos rfl]
        have o41 : u2.2 41 a = nI 0 := by rw [hu2, sta_h _ _ (by omega), if_pos rfl]; rfl
        have oo : ∀ k f, f ≠ a → u2.2 k f = u.2 k f := fun k f hf => by
          rw [hu2]
          by_cases z1 : k = 41
          · rw [z1, sta_h _ _ (by omega), if_neg hf, sta_m _ _ _ (by omega), sta_m _ _ _ (by omega), g5.2]
          · rw [sta_m _ _ _ z1]
            by_cases z2 : k = 40
            · rw [z2, sta_h _ _ (by omega), if_neg hf, sta_m _ _ _ (by omega), g5.2]
            · rw [sta_m _ _ _ z2]
              by_cases z3 : k = 39
              · rw [z3, sta_h _ _ (by omega), if_neg hf, g5.2]
              · rw [sta_m _ _ _ z3, g5.2]
        have om : ∀ k, k ≠ 39 → k ≠ 40 → k ≠ 41 → u2.2 k = u.2 k := fun k h1 h2 h3 => by rw [hu2, sta_m _ _ _ h3, sta_m _ _ _ h2, sta_m _ _ _ h1, g5.2]
        have R1 : ∀ k, k < 68 → v1.2 2 k = nI (pu R a K k) := fun k hk => by
          rw [g6.2, sta_h _ _ (by omega)]
          exact puI (hR k hk) _ Iff.rfl
        rcases next2 F hF u2 v1 hT2 hN1 j3 (by rw [u21]; exact j22) j11 j9 with ⟨t3, p3, e3, vl3, u3, v3, s1, s2, s3, s4, s5, s6⟩ | ⟨q, u3, v3, s1, s2, s3, s5, s6⟩
        · have fX3 : FrX u u3 := fX2.tr s5.fr
          have fM3 : FrM v v3 := fM1.tr s6.fr
          have s3' := s3
          obtain ⟨r1, r2, r3, r4, r5, r20, r21, r22, r23, r13, r12, r11, r14, r9⟩ := s3
          have hM2 : pX7_readFlame F (nI a) v = if t3 = 2 then bd (pX7_number F 0 9 (sta v3 2 (nI (8 + a)) (nI vl1))) (fun (r11 : Int32) (u10 : St) => some ((), sta u10 2 (nI (16 + a)) r11)) else some ((), sta v3 2 (nI (8 + a)) (nI vl1)) := by
            rw [hMh, g2, bd_s, c5', s2, bd_s, bd_s, at8, gd_i (by omega) (by omega), vl_e, sta_1, r9, if_pos (show nI 0 = 0 from rfl), r13, L2, ifeq (by omega) (by omega)]
            by_cases z : t3 = 2
            · rw [if_pos z, if_pos z]
              have e16 : ∀ w r, gd (inb (16 + nI a) 68) (vl (sta w 2 (16 + nI a) r) (fun (u12 : St) => some ((), u12))) = some ((), sta w 2 (nI (16 + a)) r) := fun w r => by
                rw [at16, gd_i (by omega) (by omega), vl_e]
              simp only [e16]
            · rw [if_neg z, if_neg z]
          have R3 : ∀ k, k < 68 → (sta v3 2 (nI (8 + a)) (nI vl1)).2 2 k = nI (pu (pu R a K) (8 + a) vl1 k) := fun k hk => by
            rw [sta_h _ _ (by omega), s6.2]
            exact puI (R1 k hk) _ Iff.rfl
          have s3v : Tok b n t3 p3 e3 vl3 u3 (sta v3 2 (nI (8 + a)) (nI vl1)) := s3'
          have h18' : u3.1 18 = nI 0 := by rw [s5.1 18 (by omega), u21, g5.1 18 (by omega)]; exact h18
          by_cases ht3 : t3 = 2
          · -- a guard is told
            rw [if_pos ht3] at hM2
            have u4T : TpX b n (sta u3 41 (nI a) (nI vl3)) := (fX3.st (by omega) _ _).tp hX
            have s4k : Tok b n t3 p3 e3 vl3 (sta u3 41 (nI a) (nI vl3)) (sta v3 2 (nI (8 + a)) (nI vl1)) := s3'
            have fM4 : FrM v (sta v3 2 (nI (8 + a)) (nI vl1)) := fM3.st _ _
            have hX3 : pX2_takesFlame F (nI a) u = bd (chk F 0 9 (sta u3 41 (nI a) (nI vl3))) (fun (r12 : Int32) (u11 : St) => if r12 = 0 then some (0, u11) else bd (pX2_readsNext F u11) (fun (r14 : Int32) (u13 : St) => if r14 = 0 then some (0, u13) else some (1, u13))) := by
              have ec : chk F 0 9 (sta u3 41 (nI a) (nI vl3)) = pX2_isNumberIn F 0 9 (sta u3 41 (nI a) (nI vl3)) := by
                unfold chk
                rw [sta_1, r20, ht3, if_pos (show nI 2 = 2 from rfl)]
                have := X_isNum F (lo := 0) (hi := 9) (sta u3 41 (nI a) (nI vl3)) (r23 ht3) (by omega) (by omega) (by omega)
                have this' : pX2_isNumberIn F 0 9 (sta u3 41 (nI a) (nI vl3)) = if 0 ≤ vl3 ∧ vl3 ≤ 9 then some (1, sta u3 41 (nI a) (nI vl3)) else some (0, stf (sta u3 41 (nI a) (nI vl3)) 18 3) := this
                rw [this']
                by_cases z : 0 ≤ vl3 ∧ vl3 ≤ 9
                · rw [if_pos z, bd_s, z01_1, gd_true]
                · rw [if_neg z, bd_s, z01_0, gd_true]
              rw [hX2, s1, bd_s, i10, r20, if_pos (show nI t3 = 2 by rw [ht3]; rfl), gd_i (by omega) (by omega), vl_e, r23 ht3, ec]
            rcases chkT F (lo := 0) (hi := 9) (sta u3 41 (nI a) (nI vl3)) (sta v3 2 (nI (8 + a)) (nI vl1)) u4T s4k (by omega) (by omega) with ⟨d1, d2, d3, d4, d5⟩ | ⟨k, u5, v5, d1, d2, d3, d4, d5⟩
            · have d4' : chk F 0 9 (sta u3 41 (nI a) (nI vl3)) = some (1, sta u3 41 (nI a) (nI vl3)) := d4
              have d5' : pX7_number F 0 9 (sta v3 2 (nI (8 + a)) (nI vl1)) = bd (pX7_step F (sta v3 2 (nI (8 + a)) (nI vl1))) (fun (_ : Unit) (u5 : St) => some (nI vl3, u5)) := d5
              rcases next2 F hF (sta u3 41 (nI a) (nI vl3)) (sta v3 2 (nI (8 + a)) (nI vl1)) u4T (fM4.tp hM) r3 r22 r11 r9 with ⟨t5, p5, e5, vl5, u5, v5, w1, w2, w3, w4, w5, w6⟩ | ⟨q, u5, v5, w1, w2, w3, w5, w6⟩
              · have lo39 : u5.2 = (sta u3 41 (nI a) (nI vl3)).2 := w5.2
                refine Or.inl ⟨pu (pu (pu R a K) (8 + a) vl1) (16 + a) vl3, t5, p5, e5, vl5, u5, sta v5 2 (nI (16 + a)) (nI vl3), ?_, ?_, w3, by omega, fun k hk => ?_, ?_, fun k h1 h2 h3 => by rw [pu_n _ h3, pu_n _ h2, pu_n _ h1], ⟨?_, ?_, ?_⟩, ⟨?_, ?_, ?_⟩, fun k f hf => ?_, fun k h1 h2 h3 => ?_, fun k hk => ?_, fun k hk => ?_, (fX3.st (by omega) _ _).tr w5.fr, (fM4.tr w6.fr).st _ _⟩
                · rw [hX3, d4', bd_s, i10, w1, bd_s, i10]
                · rw [hM2, d5', w2, bd_s, bd_s]
                · rw [sta_h _ _ (by omega), w6.2]
                  exact puI (R3 k hk) _ Iff.rfl
                · rw [w5.1 18 (by omega)]; exact h18'
                · rw [pu_n _ (by omega), pu_n _ (by omega), pu_s]; exact hK3
                · rw [pu_n _ (by omega), pu_s]; exact c3
                · rw [pu_s]; exact d3
                · rw [pu_n _ (by omega), pu_n _ (by omega), pu_s, lo39, sta_m _ _ _ (by omega), s5.2]; exact o39
                · rw [pu_n _ (by omega), pu_s, lo39, sta_m _ _ _ (by omega), s5.2]; exact o40
                · rw [pu_s, lo39, sta_h _ _ (by omega), if_pos rfl]
                · rw [lo39]
                  by_cases z : k = 41
                  · rw [z, sta_h _ _ (by omega), if_neg hf, s5.2]; exact oo 41 f hf
                  · rw [sta_m _ _ _ z, s5.2]; exact oo k f hf
                · rw [lo39, sta_m _ _ _ h3, s5.2]; exact om k h1 h2 h3
                · rw [w5.1 k hk, sta_1, s5.1 k hk, u21, g5.1 k hk]
                · rw [sta_1, w6.1 k (by omega), sta_1, s6.1 k (by omega), g6.1 k (by omega), sta_1]
              · obtain ⟨z0, z1, z2, z18, z21, z9, z10⟩ := w3
                refine Or.inr ⟨1, q, u5, sta v5 2 (nI (16 + a)) (nI vl3), ?_, ?_, ⟨z0, z1, z2, z18, z21, z9, z10⟩, (fX3.st (by omega) _ _).tr w5.fr, (fM4.tr w6.fr).st _ _⟩
                · rw [hX3, d4', bd_s, i10, w1, bd_s, i00]
                · rw [hM2, d5', w2, bd_s, bd_s]
            · have d1' : chk F 0 9 (sta u3 41 (nI a) (nI vl3)) = some (0, u5) := d1
              have d2' : pX7_number F 0 9 (sta v3 2 (nI (8 + a)) (nI vl1)) = some (nI 0, v5) := d2
              obtain ⟨z0, z1, z2, z18, z21, z9, z10⟩ := d3
              refine Or.inr ⟨k, p3, u5, sta v5 2 (nI (16 + a)) (nI 0), ?_, ?_, ⟨z0, z1, z2, z18, z21, z9, z10⟩, (fX3.st (by omega) _ _).tr d4, (fM4.tr d5).st _ _⟩
              · rw [hX3, d1', bd_s, i00]
              · rw [hM2, d2', bd_s]
          · rw [if_neg ht3] at hM2
            refine Or.inl ⟨pu (pu R a K) (8 + a) vl1, t3, p3, e3, vl3, u3, sta v3 2 (nI (8 + a)) (nI vl1), ?_, hM2, s3v, by omega, R3, h18', fun k h1 h2 h3 => by rw [pu_n _ h2, pu_n _ h1], ⟨?_, ?_, ?_⟩, ⟨?_, ?_, ?_⟩, fun k f hf => ?_, fun k h1 h2 h3 => ?_, fun k hk => ?_, fun k hk => ?_, fX3, fM3.st _ _⟩
            · rw [hX2, s1, bd_s, i10, r20, if_neg (show ¬ nI t3 = 2 from by rw [L2]; exact neI ht3 (by omega) (by omega))]
            · rw [pu_n _ (by omega), pu_s]; exact hK3
            · rw [pu_s]; exact c3
            · rw [pu_n _ (by omega), pu_n _ (by omega), h16]; omega
            · rw [pu_n _ (by omega), pu_s, s5.2]; exact o39
            · rw [pu_s, s5.2]; exact o40
            · rw [pu_n _ (by omega), pu_n _ (by omega), h16, s5.2]; exact o41
            · rw [s5.2]; exact oo k f hf
            · rw [s5.2]; exact om k h1 h2 h3
            · rw [s5.1 k hk, u21, g5.1 k hk]
            · rw [sta_1, s6.1 k (by omega), g6.1 k (by omega), sta_1]
        · obtain ⟨z0, z1, z2, z18, z21, z9, z10⟩ := s3
          refine Or.inr ⟨1, q, u3, sta v3 2 (nI (8 + a)) (nI vl1), ?_, ?_, ⟨z0, z1, z2, z18, z21, z9, z10⟩, fX2.tr s5.fr, (fM1.tr s6.fr).st _ _⟩
          · rw [hX2, s1, bd_s, i00]
          · rw [hMh, g2, bd_s, c5', s2, bd_s, bd_s, at8, gd_i (by omega) (by omega), vl_e, sta_1, z9, if_neg (show ¬ nI 1 = 0 by decide)]
      · have c1' : chk F 0 99 u1 = some (0, u2) := c1
        have c2' : pX7_number F 0 99 v1 = some (nI 0, v2) := c2
        obtain ⟨z0, z1, z2, z18, z21, z9, z10⟩ := c3
        refine Or.inr ⟨k, p1, u2, sta v2 2 (nI (8 + a)) (nI 0), ?_, ?_, ⟨z0, z1, z2, z18, z21, z9, z10⟩, fX1.tr c4, (fM1.tr c5).st _ _⟩
        · rw [hX1, X_rnum, g1, bd_s, i10, c1', bd_s, i00]
        · rw [hMh, g2, bd_s, c2', bd_s, at8, gd_i (by omega) (by omega), vl_e, sta_1, z9, if_neg (n0f (by omega) (by omega))]
    · obtain ⟨z0, z1, z2, z18, z21, z9, z10⟩ := g3
      refine Or.inr ⟨1, q, u1, sta v1 2 (nI (8 + a)) 0, ?_, ?_, ⟨z0, z1, z2, z18, z21, z9, z10⟩, g5.fr, ((FrM.rf.st _ _).tr g6.fr).st _ _⟩
      · rw [hX1, X_rnum, g1, bd_s, i00, bd_s, i00]
      · rw [hMh, g2, bd_s, M_numB F v1 0 99 z9 (by omega) (by omega), bd_s, at8, gd_i (by omega) (by omega), vl_e, sta_1, z9, if_neg (show ¬ nI 1 = 0 by decide)]
  · rw [if_neg hK3] at hMh
    refine Or.inr ⟨2, p, stf u 18 2, _, ?_, hMh, ⟨by omega, by omega, by omega, Or.inl (by rw [sf_k]; rfl), by rw [sf_n _ _ _ (by omega)]; exact k21, by rw [sf_n _ _ _ (by omega), sf_k]; rfl, by rw [sf_k]⟩, FrX.rf.sf (by omega) _, (FrM.rf.sf (by omega) _).sf (by omega) _⟩
    unfold pX2_takesFlame pX2_fails
    rw [hk, bd_s, if_neg (show ¬ K < 4 by omega), if_pos rfl, vl_e, bd_s, z01_0, gd_true]
