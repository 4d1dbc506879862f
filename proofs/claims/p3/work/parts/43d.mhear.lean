theorem M_copyL (F : Nat) {p q : Nat} (hp : p < 6) (hq : q < 6) (hpq : p ≠ q) : ∀ (n i fuel : Nat) (v : St), i + n = 68 → n < fuel → ∃ v', lq1 (bX7_copies_2 F (nI (68 * p)) (nI (68 * q))) fuel (nI i) v = some ((), v') ∧ v'.1 = v.1 ∧ (∀ k, k ≠ 0 → v'.2 k = v.2 k) ∧ (∀ k, i ≤ k → k < 68 → v'.2 0 (68 * q + k) = v.2 0 (68 * p + k)) ∧ (∀ k, (k < 68 * q + i ∨ 68 * q + 68 ≤ k) → v'.2 0 k = v.2 0 k)
  | n, i, 0, v, h1, h2 => by omega
  | 0, i, fuel + 1, v, h1, h2 => by
    refine ⟨v, ?_, rfl, fun k hk => rfl, fun k h3 h4 => by omega, fun k hk => rfl⟩
    rw [lq1_s]
    unfold bX7_copies_2
    rw [L68, if_pos ((leI (by omega) (by omega)).mpr (by omega))]
  | n + 1, i, fuel + 1, v, h1, h2 => by
    have e : lq1 (bX7_copies_2 F (nI (68 * p)) (nI (68 * q))) (fuel + 1) (nI i) v = lq1 (bX7_copies_2 F (nI (68 * p)) (nI (68 * q))) fuel (nI (i + 1)) (sta v 0 (nI (68 * q + i)) (v.2 0 (68 * p + i))) := by
      rw [lq1_s]
      generalize lq1 (bX7_copies_2 F (nI (68 * p)) (nI (68 * q))) fuel = self
      unfold bX7_copies_2
      rw [L68, if_neg (show ¬ nI 68 ≤ nI i from fun z => absurd ((leI (by omega) (by omega)).mp z) (by omega))]
      simp only [nI_add, vl_e, L1]
      rw [inb_nI (by omega) (by omega), inb_nI (by omega) (by omega), cl (by omega)]
      rfl
    rw [e]
    obtain ⟨v', g1, g2, g3, g4, g5⟩ := M_copyL F hp hq hpq n (i + 1) fuel (sta v 0 (nI (68 * q + i)) (v.2 0 (68 * p + i))) (by omega) (by omega)
    refine ⟨v', g1, g2.trans rfl, fun k hk => (g3 k hk).trans (by rw [sta_2, if_neg hk]), fun k h3 h4 => ?_, fun k hk => ?_⟩
    · by_cases hk : k = i
      · subst hk
        rw [g5 _ (by omega), sta_2, if_pos rfl, cl (by omega), upd_s]
      · rw [g4 k (by omega) h4, sta_2, if_pos rfl, cl (by omega), upd_n (by omega)]
    · rw [g5 k (by omega), sta_2, if_pos rfl, cl (by omega), upd_n (by omega)]
theorem M_copies (F : Nat) (hF : 80 ≤ F) {p q : Nat} (hp : p < 6) (hq : q < 6) (hpq : p ≠ q) (v : St) : ∃ v', pX7_copies F (nI (68 * p)) (nI (68 * q)) v = some ((), v') ∧ v'.1 = v.1 ∧ (∀ k, k ≠ 0 → v'.2 k = v.2 k) ∧ (∀ k, k < 68 → v'.2 0 (68 * q + k) = v.2 0 (68 * p + k)) ∧ (∀ k, (k < 68 * q ∨ 68 * q + 68 ≤ k) → v'.2 0 k = v.2 0 k) := by
  obtain ⟨v', g1, g2, g3, g4, g5⟩ := M_copyL F hp hq hpq 68 0 F v (by omega) (by omega)
  exact ⟨v', by unfold pX7_copies; exact g1, g2, g3, fun k hk => g4 k (by omega) hk, fun k hk => g5 k (by omega)⟩
theorem M_hears (F : Nat) (hF : 80 ≤ F) {p c jn aw mm ms cc jj : Nat} {P : Nat → Nat} (v : St) (hp : p < 6) (hc4 : c ≤ 4) (hj3 : jn ≤ 3) (hPg : PgOK c jn P) (hM : PgM p P v) (hE : MEnv aw mm ms v) (hc : cc < c) (hj : jj < jn) :
    ∃ v', pX7_hearsOn F (nI (68 * p)) (nI cc) (nI jj) v = some (nI (hP P (stm P aw mm ms (P 46)) cc jj).1, v') ∧ PgM p (lw P cc (hP P (stm P aw mm ms (P 46)) cc jj).2.2.1 (hP P (stm P aw mm ms (P 46)) cc jj).2.2.2) v' ∧ v'.1 18 = nI (hP P (stm P aw mm ms (P 46)) cc jj).2.1 ∧ (∀ k, k ≠ 18 → v'.1 k = v.1 k) ∧ (∀ k, k ≠ 0 → v'.2 k = v.2 k) ∧ (∀ i, (i < 68 * p ∨ 68 * p + 68 ≤ i) → v'.2 0 i = v.2 0 i) := by
  have q0 := hPg.2.2.1 (2 * cc) (by omega)
  have q1 := hPg.2.2.1 (2 * cc + 1) (by omega)
  have q2 := hPg.2.2.2.2.1 jj hj
  have q3 := hPg.2.2.2.2.2.1
  unfold pX7_hearsOn
  rw [jn_e, L0]
  exact M_loop F (by omega) hp (by omega) (by omega) q0.1 q1.1 (by omega) (by omega) q2.1 q2.2.2 hPg.1 (fun i hi => by have := q3 i hi; omega) 10 0 _ _ F v (by omega) (by omega) (by omega) (by omega) (by omega) hE (by rw [lw_self]; exact hM)
theorem M_tries (F : Nat) (hF : 80 ≤ F) {p c jn aw mm ms cc jj : Nat} {P : Nat → Nat} (v : St) (hp : p < 6) (hp4 : p ≠ 4) (hc4 : c ≤ 4) (hj3 : jn ≤ 3) (hPg : PgOK c jn P) (hM : PgM p P v) (hE : MEnv aw mm ms v) (hc : cc < c) (hj : jj < jn) :
    ∃ v', pX7_tries F (nI (68 * p)) (nI cc) (nI jj) v = some (nI (hP P (stm P aw mm ms (P 46)) cc jj).1, v') ∧ PgM 4 (lw P cc (hP P (stm P aw mm ms (P 46)) cc jj).2.2.1 (hP P (stm P aw mm ms (P 46)) cc jj).2.2.2) v' ∧ v'.1 18 = nI (hP P (stm P aw mm ms (P 46)) cc jj).2.1 ∧ (∀ k, k ≠ 18 → v'.1 k = v.1 k) ∧ (∀ k, k ≠ 0 → v'.2 k = v.2 k) ∧ (∀ i, (i < 272 ∨ 340 ≤ i) → v'.2 0 i = v.2 0 i) := by
  obtain ⟨w, g1, g2, g3, g4, g5⟩ := M_copies F hF hp (show 4 < 6 by omega) hp4 v
  obtain ⟨e1, e2, e3, e4, e5, e6, e7⟩ := hE
  obtain ⟨v', k1, k2, k3, k4, k5, k6⟩ := M_hears F hF (p := 4) w (by omega) hc4 hj3 hPg (fun k hk => by rw [g4 k hk]; exact hM k hk) (aw := aw) (mm := mm) (ms := ms) ⟨e1, by rw [g2]; exact e2, by rw [g2]; exact e3, by rw [g2]; exact e4, e5, e6, by rw [g3 1 (by omega)]; exact e7⟩ hc hj
  refine ⟨v', ?_, k2, k3, fun k hk => by rw [k4 k hk, g2], fun k hk => by rw [k5 k hk, g3 k hk], fun i hi => by rw [k6 i (by omega), g5 i (by omega)]⟩
  unfold pX7_tries
  rw [L272, show nI 272 = nI (68 * 4) from rfl, g1, bd_s, k1]
  rfl
theorem stm_0 (P : Nat → Nat) (mm n : Nat) : stm P 0 mm 0 n = stg P 0 n := by
  funext m
  unfold stm
  split <;> simp

