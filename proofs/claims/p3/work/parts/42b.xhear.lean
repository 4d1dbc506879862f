theorem burn_eq {l b : Nat} (hl : l < 1000) (hb : b < 1000) : (if nI 0 < nI l - nI b then nI l - nI b else nI 0) = nI (l - b) := by
  by_cases h : b ≤ l
  · rw [subI h, iflt (by omega) (by omega)]
    by_cases h2 : 0 < l - b
    · rw [if_pos h2]
    · rw [if_neg h2, show l - b = 0 by omega]
  · have e : (nI l - nI b).toInt = (l : Int) - b := by
      rw [Int32.toInt_sub, tI (by omega), tI (by omega)]
      exact fb_bmod0 (by omega) (by omega)
    rw [if_neg, show l - b = 0 by omega]
    rw [Int32.lt_iff_toInt_lt, e, tI (by omega)]
    omega
theorem tab_bn {k : Nat} (h : k ≤ 3) : tabBURNS k = nI (bn k) := by
  match k, h with
  | 0, _ => rfl
  | 1, _ => rfl
  | 2, _ => rfl
  | 3, _ => rfl
  | k + 4, h => omega
theorem bn_bd (k : Nat) : bn k ≤ 6 := by
  unfold bn
  match k with
  | 0 => decide
  | 1 => decide
  | 2 => decide
  | 3 => decide
  | k + 4 => simp
theorem hRun_end (b0 b1 g0 g1 hb sl : Nat) (S : Nat → Nat) (n m l0 l1 : Nat) (h : m = sl ∨ l0 = 0 ∨ g0 < S m ∨ l1 = 0 ∨ g1 < S m) : hRun b0 b1 g0 g1 hb sl S (n + 1) m l0 l1 = (hEnd l0 l1 g0 g1 hb (S m), m, l0, l1) := by
  unfold hRun hEnd
  by_cases c1 : l0 = 0 ∨ g0 < S m
  · by_cases c2 : l1 = 0 ∨ g1 < S m <;> simp [c1, c2]
  · by_cases c2 : l1 = 0 ∨ g1 < S m
    · simp [c1, c2]
    · have c3 : m = sl := by omega
      rw [if_neg c1, if_neg c2, if_pos c3, if_neg c1, if_neg c2]
theorem hRun_on (b0 b1 g0 g1 hb sl : Nat) (S : Nat → Nat) (n m l0 l1 : Nat) (h : ¬ (m = sl ∨ l0 = 0 ∨ g0 < S m ∨ l1 = 0 ∨ g1 < S m)) : hRun b0 b1 g0 g1 hb sl S (n + 1) m l0 l1 = hRun b0 b1 g0 g1 hb sl S n (m + 1) (l0 - b0) (l1 - b1) := by
  rw [hRun, if_neg (by omega), if_neg (by omega), if_neg (by omega)]
theorem X_loop (F : Nat) {k0 g0 k1 g1 hb sl : Nat} {S : Nat → Nat} (a1 : k0 ≤ 3) (a2 : k1 ≤ 3) (b3 : g0 < 1000) (b4 : g1 < 1000) (b5 : hb < 1000) (b6 : ∀ m, S m < 1000) (b7 : sl ≤ 9) : ∀ (n m l0 l1 fuel : Nat) (u : St), n ≤ fuel → TrX u k0 l0 g0 k1 l1 g1 hb sl S → u.1 26 = nI m → m ≤ sl → sl < m + n → l0 < 1000 → l1 < 1000 →
    ∃ u', lp0 (bX5_verdictHeld_5 F (jX5_verdictHeld_99 F)) fuel u = some (nI (hRun (bn k0) (bn k1) g0 g1 hb sl S n m l0 l1).1, u') ∧ TrX u' k0 (hRun (bn k0) (bn k1) g0 g1 hb sl S n m l0 l1).2.2.1 g0 k1 (hRun (bn k0) (bn k1) g0 g1 hb sl S n m l0 l1).2.2.2 g1 hb sl S ∧ u'.1 26 = nI (hRun (bn k0) (bn k1) g0 g1 hb sl S n m l0 l1).2.1 ∧ eqT u u'
  | 0, m, l0, l1, fuel, u, hf, h, h3, hm1, hm2, b1, b2 => by omega
  | n + 1, m, l0, l1, 0, u, hf, h, h3, hm1, hm2, b1, b2 => by omega
  | n + 1, m, l0, l1, fuel + 1, u, hf, h, h3, hm1, hm2, b1, b2 => by
    have hfin := X_fin F u h b1 b2 b3 b4 b5 h3 (by omega) (b6 m)
    have hB0 := X_burns F u (s := 0) (by omega) h.2.1.1 h.2.2.1.1 h3 (by omega) (h.2.2.2.1 m (by omega)) b1 b3 (b6 m)
    have hB1 := X_burns F u (s := 1) (by omega) h.2.1.2 h.2.2.1.2 h3 (by omega) (h.2.2.2.1 m (by omega)) b2 b4 (b6 m)
    have hsl : u.1 25 = nI sl := h.2.2.2.2.2
    by_cases hs : m = sl ∨ l0 = 0 ∨ g0 < S m ∨ l1 = 0 ∨ g1 < S m
    · rw [hRun_end (bn k0) (bn k1) g0 g1 hb sl S n m l0 l1 hs]
      refine ⟨u, ?_, h, h3, eqT.rf⟩
      rw [lp0_s]
      unfold bX5_verdictHeld_5
      simp only [L0, L1, hsl, h3, hB0, hB1, bd_s, b01_n0]
      rw [ifle (by omega) (by omega)]
      by_cases c : sl ≤ m
      · rw [if_pos c]; exact hfin
      · rw [if_neg c]
        by_cases c0 : 0 < l0 ∧ S m ≤ g0
        · rw [if_pos c0, if_neg (show ¬ (0 < l1 ∧ S m ≤ g1) by omega)]; exact hfin
        · rw [if_neg c0]; exact hfin
    · rw [hRun_on (bn k0) (bn k1) g0 g1 hb sl S n m l0 l1 hs]
      have q0 := bn_bd k0
      have q1 := bn_bd k1
      have e : lp0 (bX5_verdictHeld_5 F (jX5_verdictHeld_99 F)) (fuel + 1) u = lp0 (bX5_verdictHeld_5 F (jX5_verdictHeld_99 F)) fuel (stf (sta (sta u 56 (nI 0) (nI (l0 - bn k0))) 56 (nI 1) (nI (l1 - bn k1))) 26 (nI (m + 1))) := by
        rw [lp0_s]
        generalize lp0 (bX5_verdictHeld_5 F (jX5_verdictHeld_99 F)) fuel = self
        unfold bX5_verdictHeld_5
        simp only [L0, L1, hsl, h3, hB0, hB1, bd_s, b01_n0]
        rw [ifle (by omega) (by omega), if_neg (by omega), if_pos (by omega), if_pos (by omega)]
        simp (disch := omega) only [inb_nI, gd_true, cl, h.1.1, h.1.2, h.2.1.1, h.2.1.2, tab_bn, burn_eq, vl_e, sta_2, sta_1, stf_1, Nat.reduceEqDiff, if_true, if_false, upd_n, upd_s, ne_eq, not_false_eq_true, h3, nI_add, L1]
      rw [e]
      obtain ⟨u', g1', g2, g3, g4⟩ := X_loop F a1 a2 b3 b4 b5 b6 b7 n (m + 1) (l0 - bn k0) (l1 - bn k1) fuel (stf (sta (sta u 56 (nI 0) (nI (l0 - bn k0))) 56 (nI 1) (nI (l1 - bn k1))) 26 (nI (m + 1))) (by omega) ⟨h.1, ⟨rfl, rfl⟩, h.2.2.1, h.2.2.2.1, h.2.2.2.2⟩ rfl (by omega) (by omega) (by omega) (by omega)
      refine ⟨u', g1', g2, g3, eqT.tr ⟨fun k hk => ?_, fun k hk => ?_⟩ g4⟩
      · rw [stf_1, if_neg (by omega)]; rfl
      · rw [stf_2, sta_2, if_neg (by omega), sta_2, if_neg (by omega)]
