/-! PURE: the class's own hearing -/
def eqT (u u' : St) : Prop := (∀ k, (k < 24 ∨ 26 < k) → u'.1 k = u.1 k) ∧ (∀ k, (k < 55 ∨ 58 < k) → u'.2 k = u.2 k)
theorem eqT.rf {u : St} : eqT u u := ⟨fun _ _ => rfl, fun _ _ => rfl⟩
theorem eqT.tr {u w x : St} (h : eqT u w) (h2 : eqT w x) : eqT u x := ⟨fun k q => (h2.1 k q).trans (h.1 k q), fun k q => (h2.2 k q).trans (h.2 k q)⟩
theorem eqT.x {u u' : St} (h : eqT u u') : eqX u u' := ⟨fun k q => h.1 k (by omega), fun k q => h.2 k (by omega)⟩
def TrX (u : St) (k0 l0 g0 k1 l1 g1 hb sl : Nat) (S : Nat → Nat) : Prop :=
  (u.2 55 0 = nI k0 ∧ u.2 55 1 = nI k1) ∧ (u.2 56 0 = nI l0 ∧ u.2 56 1 = nI l1) ∧ (u.2 57 0 = nI g0 ∧ u.2 57 1 = nI g1) ∧ (∀ m, m < 21 → u.2 58 m = nI (S m)) ∧ u.1 24 = nI hb ∧ u.1 25 = nI sl
theorem X_burns (F : Nat) (u : St) {s l g t m : Nat} (hs : s < 2) (h1 : u.2 56 s = nI l) (h2 : u.2 57 s = nI g) (h3 : u.1 26 = nI m) (hm : m < 21) (h4 : u.2 58 m = nI t) (hl : l < 1000) (hg : g < 1000) (ht : t < 1000) : pX5_burnsStill F (nI s) u = some (b01 (0 < l ∧ t ≤ g), u) := by
  unfold pX5_burnsStill
  simp (disch := omega) only [L0, inb_nI, gd_true, cl, h1, h2, h3, h4, leI, ltI]
  by_cases c1 : l ≤ 0
  · rw [if_pos c1, b01_f (by omega)]
  · rw [if_neg c1]
    by_cases c2 : g < t
    · rw [if_pos c2, b01_f (by omega)]; rfl
    · rw [if_neg c2, b01_t (by omega)]
theorem X_goes (F : Nat) (u : St) {k0 l0 g0 k1 l1 g1 hb sl : Nat} {S : Nat → Nat} (h : TrX u k0 l0 g0 k1 l1 g1 hb sl S) (b1 : l0 < 1000) (b2 : l1 < 1000) (b3 : g0 < 1000) (b4 : g1 < 1000) (b5 : hb < 1000) : pX5_goesTo F u = some (nI (hGo l0 l1 g0 g1 hb), u) := by
  obtain ⟨-, ⟨e1, e2⟩, ⟨e3, e4⟩, -, e5, -⟩ := h
  unfold pX5_goesTo
  simp (disch := omega) only [jn_e, L0, L1, L2, L3, inb_nI, gd_true, cl, e1, e2, e3, e4, e5, leI, eqI, subI]
  have c1 : l0 < l1 ↔ ¬ l1 ≤ l0 := by omega
  have c2 : g1 < g0 ↔ ¬ g0 ≤ g1 := by omega
  simp only [hGo, c1, c2]
  by_cases d0 : l1 ≤ l0 <;> by_cases d1 : hb = 1 <;> by_cases d2 : hb = 2 <;> by_cases d3 : hb = 3 <;> by_cases d4 : g0 ≤ g1 <;> simp [d0, d1, d2, d3, d4]
/-- the end of a hearing, as it stands in its last minute -/
def hEnd (l0 l1 g0 g1 hb t : Nat) : Nat := if l0 = 0 ∨ g0 < t then (if l1 = 0 ∨ g1 < t then 3 else 2) else if l1 = 0 ∨ g1 < t then 1 else if hGo l0 l1 g0 g1 hb = 0 then 2 else 1
theorem X_fin (F : Nat) (u : St) {k0 l0 g0 k1 l1 g1 hb sl m : Nat} {S : Nat → Nat} (h : TrX u k0 l0 g0 k1 l1 g1 hb sl S) (b1 : l0 < 1000) (b2 : l1 < 1000) (b3 : g0 < 1000) (b4 : g1 < 1000) (b5 : hb < 1000) (h3 : u.1 26 = nI m) (hm : m < 21) (b6 : S m < 1000) : jX5_verdictHeld_99 F u = some (nI (hEnd l0 l1 g0 g1 hb (S m)), u) := by
  have hB0 := X_burns F u (s := 0) (by omega) h.2.1.1 h.2.2.1.1 h3 hm (h.2.2.2.1 m hm) b1 b3 b6
  have hB1 := X_burns F u (s := 1) (by omega) h.2.1.2 h.2.2.1.2 h3 hm (h.2.2.2.1 m hm) b2 b4 b6
  have hG := X_goes F u h b1 b2 b3 b4 b5
  unfold jX5_verdictHeld_99
  simp only [jn_e, L0, L1, L2, L3, hB0, hB1, bd_s, b01_n0, hG]
  unfold hEnd
  by_cases c0 : 0 < l0 ∧ S m ≤ g0
  · rw [if_pos c0, if_neg (show ¬ (l0 = 0 ∨ g0 < S m) by omega)]
    by_cases c1 : 0 < l1 ∧ S m ≤ g1
    · rw [if_pos c1, if_neg (show ¬ (l1 = 0 ∨ g1 < S m) by omega)]
      by_cases c2 : hGo l0 l1 g0 g1 hb = 0
      · rw [c2]; simp
      · have : ¬ nI (hGo l0 l1 g0 g1 hb) = nI 0 := by
          rw [eqI (by unfold hGo; split <;> (try split) <;> (try split) <;> (try split) <;> omega) (by omega)]; exact c2
        rw [if_neg this, if_neg c2]
    · rw [if_neg c1, if_pos (show (l1 = 0 ∨ g1 < S m) by omega)]
      simp only [c0, and_self, if_true]
  · rw [if_neg c0, if_pos (show (l0 = 0 ∨ g0 < S m) by omega)]
    by_cases c1 : 0 < l1 ∧ S m ≤ g1
    · rw [if_neg (show ¬ (l1 = 0 ∨ g1 < S m) by omega)]
      simp only [c0, c1, and_self, if_true, if_false]
    · rw [if_pos (show (l1 = 0 ∨ g1 < S m) by omega)]
      simp only [c0, c1, if_false]
theorem burn_eq {l b : Nat} (hl : l < 1000) (hb : b < 1000) : (if nI 0 < nI l - nI b then nI l - nI b else nI 0) = nI (l - b) := by
  by_cases h : b ≤ l
  · rw [subI h, ltI (by omega) (by omega)]
    by_cases h2 : 0 < l - b
    · rw [if_pos h2]
    · rw [if_neg h2, show l - b = 0 by omega]
  · have e : (nI l - nI b).toInt = (l : Int) - b := by
      rw [Int32.toInt_sub, tI (by omega), tI (by omega)]
      exact fb_bmod0 (by omega) (by omega)
    rw [if_neg, show l - b = 0 by omega]
    rw [Int32.lt_iff_toInt_lt, e, tI (by omega)]
    omega
theorem tab_bn {k : Nat} (h : k ≤ 3) : tabBURNS k = nI (bn k) := by
  match k, h with
  | 0, _ => rfl
  | 1, _ => rfl
  | 2, _ => rfl
  | 3, _ => rfl
  | k + 4, h => omega
theorem bn_bd (k : Nat) : bn k ≤ 6 := by
  unfold bn
  match k with
  | 0 => decide
  | 1 => decide
  | 2 => decide
  | 3 => decide
  | k + 4 => simp
theorem hRun_end (b0 b1 g0 g1 hb sl : Nat) (S : Nat → Nat) (n m l0 l1 : Nat) (h : m = sl ∨ l0 = 0 ∨ g0 < S m ∨ l1 = 0 ∨ g1 < S m) : hRun b0 b1 g0 g1 hb sl S (n + 1) m l0 l1 = (hEnd l0 l1 g0 g1 hb (S m), m, l0, l1) := by
  unfold hRun hEnd
  by_cases c1 : l0 = 0 ∨ g0 < S m
  · by_cases c2 : l1 = 0 ∨ g1 < S m <;> simp [c1, c2]
  · by_cases c2 : l1 = 0 ∨ g1 < S m
    · simp [c1, c2]
    · have c3 : m = sl := by omega
      simp [c1, c2, c3]
theorem hRun_on (b0 b1 g0 g1 hb sl : Nat) (S : Nat → Nat) (n m l0 l1 : Nat) (h : ¬ (m = sl ∨ l0 = 0 ∨ g0 < S m ∨ l1 = 0 ∨ g1 < S m)) : hRun b0 b1 g0 g1 hb sl S (n + 1) m l0 l1 = hRun b0 b1 g0 g1 hb sl S n (m + 1) (l0 - b0) (l1 - b1) := by
  rw [hRun, if_neg (by omega), if_neg (by omega), if_neg (by omega)]
theorem X_loop (F : Nat) {k0 g0 k1 g1 hb sl : Nat} {S : Nat → Nat} (a1 : k0 ≤ 3) (a2 : k1 ≤ 3) (b3 : g0 < 1000) (b4 : g1 < 1000) (b5 : hb < 1000) (b6 : ∀ m, S m < 1000) (b7 : sl ≤ 9) : ∀ (n m l0 l1 fuel : Nat) (u : St), n ≤ fuel → TrX u k0 l0 g0 k1 l1 g1 hb sl S → u.1 26 = nI m → m ≤ sl → sl < m + n → l0 < 1000 → l1 < 1000 →
    ∃ u', lp0 (bX5_verdictHeld_5 F (jX5_verdictHeld_99 F)) fuel u = some (nI (hRun (bn k0) (bn k1) g0 g1 hb sl S n m l0 l1).1, u') ∧ TrX u' k0 (hRun (bn k0) (bn k1) g0 g1 hb sl S n m l0 l1).2.2.1 g0 k1 (hRun (bn k0) (bn k1) g0 g1 hb sl S n m l0 l1).2.2.2 g1 hb sl S ∧ u'.1 26 = nI (hRun (bn k0) (bn k1) g0 g1 hb sl S n m l0 l1).2.1 ∧ eqT u u'
  | 0, m, l0, l1, fuel, u, hf, h, h3, hm1, hm2, b1, b2 => by omega
  | n + 1, m, l0, l1, 0, u, hf, h, h3, hm1, hm2, b1, b2 => by omega
  | n + 1, m, l0, l1, fuel + 1, u, hf, h, h3, hm1, hm2, b1, b2 => by
    have hfin := X_fin F u h b1 b2 b3 b4 b5 h3 (by omega) (b6 m)
    have hB0 := X_burns F u (s := 0) (by omega) h.2.1.1 h.2.2.1.1 h3 (by omega) (h.2.2.2.1 m (by omega)) b1 b3 (b6 m)
    have hB1 := X_burns F u (s := 1) (by omega) h.2.1.2 h.2.2.1.2 h3 (by omega) (h.2.2.2.1 m (by omega)) b2 b4 (b6 m)
    have hsl : u.1 25 = nI sl := h.2.2.2.2.2
    by_cases hs : m = sl ∨ l0 = 0 ∨ g0 < S m ∨ l1 = 0 ∨ g1 < S m
    · rw [hRun_end (bn k0) (bn k1) g0 g1 hb sl S n m l0 l1 hs]
      refine ⟨u, ?_, h, h3, eqT.rf⟩
      rw [lp0_s]
      unfold bX5_verdictHeld_5
      simp only [L0, L1, hsl, h3, hB0, hB1, bd_s, b01_n0]
      rw [leI (by omega) (by omega)]
      by_cases c : sl ≤ m
      · rw [if_pos c]; exact hfin
      · rw [if_neg c]
        by_cases c0 : 0 < l0 ∧ S m ≤ g0
        · rw [if_pos c0, if_neg (show ¬ (0 < l1 ∧ S m ≤ g1) by omega)]; exact hfin
        · rw [if_neg c0]; exact hfin
    · rw [hRun_on (bn k0) (bn k1) g0 g1 hb sl S n m l0 l1 hs]
      have q0 := bn_bd k0
      have q1 := bn_bd k1
      have e : lp0 (bX5_verdictHeld_5 F (jX5_verdictHeld_99 F)) (fuel + 1) u = lp0 (bX5_verdictHeld_5 F (jX5_verdictHeld_99 F)) fuel (stf (sta (sta u 56 (nI 0) (nI (l0 - bn k0))) 56 (nI 1) (nI (l1 - bn k1))) 26 (nI (m + 1))) := by
        rw [lp0_s]
        conv => lhs; unfold bX5_verdictHeld_5
        simp only [L0, L1, hsl, h3, hB0, hB1, bd_s, b01_n0]
        rw [leI (by omega) (by omega), if_neg (by omega), if_pos (by omega), if_pos (by omega)]
        simp (disch := omega) only [inb_nI, gd_true, cl, h.1.1, h.1.2, h.2.1.1, h.2.1.2, tab_bn, burn_eq, vl_e, sta_2, sta_1, stf_1, Nat.reduceEqDiff, if_true, if_false, upd_n, upd_s, ne_eq, not_false_eq_true, h3, nI_add, L1]
      rw [e]
      obtain ⟨u', g1', g2, g3, g4⟩ := X_loop F a1 a2 b3 b4 b5 b6 b7 n (m + 1) (l0 - bn k0) (l1 - bn k1) fuel (stf (sta (sta u 56 (nI 0) (nI (l0 - bn k0))) 56 (nI 1) (nI (l1 - bn k1))) 26 (nI (m + 1))) (by omega) ⟨h.1, ⟨rfl, rfl⟩, h.2.2.1, h.2.2.2.1, h.2.2.2.2⟩ rfl (by omega) (by omega) (by omega) (by omega)
      refine ⟨u', g1', g2, g3, eqT.tr ⟨fun k hk => ?_, fun k hk => ?_⟩ g4⟩
      · rw [stf_1, if_neg (by omega)]; rfl
      · rw [stf_2, sta_2, if_neg (by omega), sta_2, if_neg (by omega)]
def only58 (u u' : St) : Prop := u'.1 = u.1 ∧ ∀ k, k ≠ 58 → u'.2 k = u.2 k
theorem X_clear (F : Nat) (J : St → Option (Unit × St)) : ∀ (k m fuel : Nat) (u : St), m + k = 21 → k < fuel → ∃ u', lq1 (bX5_prepare_92 F J) fuel (nI m) u = J u' ∧ (∀ i, m ≤ i → i < 21 → u'.2 58 i = nI 0) ∧ (∀ i, i < m → u'.2 58 i = u.2 58 i) ∧ only58 u u'
  | k, m, 0, u, hm, hf => by omega
  | 0, m, fuel + 1, u, hm, hf => by
    refine ⟨u, ?_, fun i h1 h2 => by omega, fun i h => rfl, rfl, fun k hk => rfl⟩
    rw [lq1_s]
    unfold bX5_prepare_92
    rw [if_pos (show Int32.ofNat 21 ≤ nI m from (leI (a := 21) (by omega) (by omega)).mpr (by omega))]
  | k + 1, m, fuel + 1, u, hm, hf => by
    have e : lq1 (bX5_prepare_92 F J) (fuel + 1) (nI m) u = lq1 (bX5_prepare_92 F J) fuel (nI (m + 1)) (sta u 58 (nI m) (nI 0)) := by
      rw [lq1_s]
      conv => lhs; unfold bX5_prepare_92
      rw [if_neg (show ¬ Int32.ofNat 21 ≤ nI m from fun q => absurd ((leI (a := 21) (by omega) (by omega)).mp q) (by omega))]
      simp (disch := omega) only [inb_nI, gd_true, vl_e, L0, L1, nI_add]
    rw [e]
    obtain ⟨u', g1, g2, g3, g4, g5⟩ := X_clear F J k (m + 1) fuel (sta u 58 (nI m) (nI 0)) (by omega) (by omega)
    refine ⟨u', g1, fun i h1 h2 => ?_, fun i h => ?_, g4.trans rfl, fun j hj => (g5 j hj).trans (by rw [sta_2, if_neg hj])⟩
    · by_cases hi : i = m
      · rw [g3 i (by omega), sta_2, if_pos rfl, cl (by omega), hi, upd_s]
      · exact g2 i (by omega) h2
    · rw [g3 i (by omega), sta_2, if_pos rfl, cl (by omega), upd_n (by omega)]
theorem sh_bit : ∀ aw, aw < 16 → ∀ i, i < 4 → (((nI aw >>> (nI i &&& nI 31)) &&& nI 1) = nI 0 ↔ aw.testBit i = false) := by decide
theorem X_blows (F : Nat) (u : St) {m t x : Nat} (hm : m < 21) (ht : t < 1000) (hx : x < 1000) (h : u.2 58 m = nI x) : pX5_blows F (nI m) (nI t) u = some ((), sta u 58 (nI m) (nI (max x t))) := by
  unfold pX5_blows
  simp (disch := omega) only [inb_nI, gd_true, vl_e, cl, h, ltI]
  by_cases c : x < t
  · rw [if_pos c, Nat.max_eq_right (by omega)]
  · rw [if_neg c, Nat.max_eq_left (by omega)]
theorem stg_bd {c jn : Nat} {P : Nat → Nat} (h : PgOK c jn P) (aw : Nat) : ∀ n, n ≤ P 46 → ∀ m, stg P aw n m ≤ 9
  | 0, _, m => by unfold stg; omega
  | n + 1, hn, m => by
    have h1 := stg_bd h aw n (by omega) m
    have h2 := (h.2.2.2.2.2.1 n (by omega)).2.2
    unfold stg
    split
    · exact Nat.max_le.mpr ⟨h1, h2⟩
    · exact h1
theorem X_draw (F : Nat) {c jn aw : Nat} {P : Nat → Nat} (hP : PgOK c jn P) (ha : aw < 16) : ∀ (k i fuel : Nat) (u : St), i + k = P 46 → k < fuel → u.1 2 = nI (P 46) → (∀ i, i < P 46 → u.2 9 i = nI (P (47 + i)) ∧ u.2 10 i = nI (P (51 + i))) → (∀ m, m < 21 → u.2 58 m = nI (stg P aw i m)) → ∃ u', lq1 (bX5_prepare_119 F (nI aw)) fuel (nI i) u = some ((), u') ∧ (∀ m, m < 21 → u'.2 58 m = nI (stg P aw (P 46) m)) ∧ only58 u u'
  | k, i, 0, u, hm, hf, e1, e2, e3 => by omega
  | 0, i, fuel + 1, u, hm, hf, e1, e2, e3 => by
    have h4 := hP.1
    refine ⟨u, ?_, fun m h => by rw [e3 m h, show i = P 46 by omega], rfl, fun k hk => rfl⟩
    rw [lq1_s]
    unfold bX5_prepare_119
    rw [e1, if_pos ((leI (by omega) (by omega)).mpr (by omega))]
  | k + 1, i, fuel + 1, u, hm, hf, e1, e2, e3 => by
    have h4 := hP.1
    obtain ⟨h5, h6, h7⟩ := hP.2.2.2.2.2.1 i (by omega)
    have hb := stg_bd hP aw i (by omega) (P (47 + i))
    by_cases c : aw.testBit i = false
    · have e : lq1 (bX5_prepare_119 F (nI aw)) (fuel + 1) (nI i) u = lq1 (bX5_prepare_119 F (nI aw)) fuel (nI (i + 1)) (sta u 58 (nI (P (47 + i))) (nI (max (stg P aw i (P (47 + i))) (P (51 + i))))) := by
        rw [lq1_s]
        conv => lhs; unfold bX5_prepare_119
        rw [e1, if_neg (show ¬ nI (P 46) ≤ nI i from fun q => absurd ((leI (by omega) (by omega)).mp q) (by omega))]
        simp only [jn_e, L0, L1, L31]
        rw [if_pos ((sh_bit aw ha i (by omega)).mpr c), cl (by omega), (e2 i (by omega)).1, (e2 i (by omega)).2, X_blows F u (x := stg P aw i (P (47 + i))) (by omega) (by omega) (by omega) (e3 _ (by omega))]
        simp (disch := omega) only [inb_nI, gd_true, bd_s, nI_add]
      rw [e]
      obtain ⟨u', g1, g2, g3, g4⟩ := X_draw F hP ha k (i + 1) fuel (sta u 58 (nI (P (47 + i))) (nI (max (stg P aw i (P (47 + i))) (P (51 + i))))) (by omega) (by omega) e1 e2 (fun m hm => by
        rw [sta_2, if_pos rfl, cl (by omega)]
        by_cases hq : m = P (47 + i)
        · rw [hq, upd_s, stg, if_pos ⟨c, rfl⟩]
        · rw [upd_n hq, e3 m hm, stg, if_neg (fun z => hq z.2.symm)])
      exact ⟨u', g1, g2, g3.trans rfl, fun j hj => (g4 j hj).trans (by rw [sta_2, if_neg hj])⟩
    · have e : lq1 (bX5_prepare_119 F (nI aw)) (fuel + 1) (nI i) u = lq1 (bX5_prepare_119 F (nI aw)) fuel (nI (i + 1)) u := by
        rw [lq1_s]
        conv => lhs; unfold bX5_prepare_119
        rw [e1, if_neg (show ¬ nI (P 46) ≤ nI i from fun q => absurd ((leI (by omega) (by omega)).mp q) (by omega))]
        simp only [jn_e, L0, L1, L31]
        rw [if_neg (fun q => c ((sh_bit aw ha i (by omega)).mp q)), nI_add]
      rw [e]
      obtain ⟨u', g1, g2, g3, g4⟩ := X_draw F hP ha k (i + 1) fuel u (by omega) (by omega) e1 e2 (fun m hm => by rw [e3 m hm, stg, if_neg (fun z => c z.1)])
      exact ⟨u', g1, g2, g3, g4⟩
theorem X_p3 (F : Nat) (J : St → Option (Unit × St)) (self : Int32 → St → Option (Unit × St)) {cc s a b d : Nat} (u : St) (hc : cc < 4) (hs : s < 2) (h0 : u.2 0 (2 * cc + s) = nI a) (h1 : u.2 1 (2 * cc + s) = nI b) (h2 : u.2 2 (2 * cc + s) = nI d) : bX5_prepare_3 F (nI cc) J self (nI s) u = self (nI (s + 1)) (sta (sta (sta u 55 (nI s) (nI a)) 56 (nI s) (nI b)) 57 (nI s) (nI d)) := by
  unfold bX5_prepare_3
  simp only [L2, L1, pk_mul, nI_add]
  rw [if_neg (show ¬ nI 2 ≤ nI s from fun q => absurd ((leI (by omega) (by omega)).mp q) (by omega))]
  simp (disch := omega) only [inb_nI, gd_true, vl_e, cl, sta_2, Nat.reduceEqDiff, if_false, h0, h1, h2]
theorem X_prepare (F : Nat) (hF : 30 ≤ F) {c jn cc jj aw : Nat} {P : Nat → Nat} (u : St) (hc4 : c ≤ 4) (hj3 : jn ≤ 3) (hP : PgOK c jn P) (hX : CtX 0 c jn P u) (hc : cc < c) (hj : jj < jn) (ha : aw < 16) :
    ∃ u', pX5_prepare F (nI cc) (nI jj) (nI aw) u = some ((), u') ∧ TrX u' (P (2 * cc)) (P (8 + 2 * cc)) (P (16 + 2 * cc)) (P (2 * cc + 1)) (P (8 + (2 * cc + 1))) (P (16 + (2 * cc + 1))) (P (40 + jj)) (P (43 + jj)) (stg P aw (P 46)) ∧ eqT u u' := by
  obtain ⟨x1, x2, x3, x4, x5, x6, x7, x8, x9⟩ := hX
  obtain ⟨f, rfl⟩ : ∃ f, F = f + 30 := ⟨F - 30, by omega⟩
  obtain ⟨y0, y1, y2⟩ := x5 (2 * cc) (by omega)
  obtain ⟨z0, z1, z2⟩ := x5 (2 * cc + 1) (by omega)
  unfold pX5_prepare
  rw [jn_e, L0, show f + 30 = f + 29 + 1 from rfl, lq1_s, X_p3 _ _ _ u (by omega) (by omega) y0 y1 y2, show f + 29 = f + 28 + 1 from rfl, lq1_s]
  rw [X_p3 _ _ _ (sta (sta (sta u 55 (nI 0) (nI (P (2 * cc)))) 56 (nI 0) (nI (P (8 + 2 * cc)))) 57 (nI 0) (nI (P (16 + 2 * cc)))) (by omega) (show 0 + 1 < 2 by omega) z0 z1 z2, show f + 28 = f + 27 + 1 from rfl, lq1_s]
  generalize hw : (sta (sta (sta (sta (sta (sta u 55 (nI 0) (nI (P (2 * cc)))) 56 (nI 0) (nI (P (8 + 2 * cc)))) 57 (nI 0) (nI (P (16 + 2 * cc)))) 55 (nI (0 + 1)) (nI (P (2 * cc + 1)))) 56 (nI (0 + 1)) (nI (P (8 + (2 * cc + 1))))) 57 (nI (0 + 1)) (nI (P (16 + (2 * cc + 1))))) = w
  have w1 : w.1 = u.1 := by rw [← hw]; rfl
  have wk : ∀ k, (k < 55 ∨ 57 < k) → w.2 k = u.2 k := fun k hk => by
    rw [← hw]
    simp only [sta_2]
    rw [if_neg (by omega), if_neg (by omega), if_neg (by omega), if_neg (by omega), if_neg (by omega), if_neg (by omega)]
  have w55 : w.2 55 0 = nI (P (2 * cc)) ∧ w.2 55 1 = nI (P (2 * cc + 1)) := by rw [← hw]; exact ⟨rfl, rfl⟩
  have w56 : w.2 56 0 = nI (P (8 + 2 * cc)) ∧ w.2 56 1 = nI (P (8 + (2 * cc + 1))) := by rw [← hw]; exact ⟨rfl, rfl⟩
  have w57 : w.2 57 0 = nI (P (16 + 2 * cc)) ∧ w.2 57 1 = nI (P (16 + (2 * cc + 1))) := by rw [← hw]; exact ⟨rfl, rfl⟩
  clear hw
  have e1 : ∀ self, bX5_prepare_3 (f + 27 + 1 + 1 + 1) (nI cc) (jX5_prepare_69 (f + 27 + 1 + 1 + 1) (nI jj) (nI aw)) self (nI (0 + 1 + 1)) w = jX5_prepare_69 (f + 27 + 1 + 1 + 1) (nI jj) (nI aw) w := fun self => by
    unfold bX5_prepare_3
    rw [L2, if_pos (show nI 2 ≤ nI (0 + 1 + 1) from (leI (by omega) (by omega)).mpr (by omega))]
  rw [e1]
  unfold jX5_prepare_69
  have h7 : w.2 7 jj = nI (P (40 + jj)) := by rw [wk 7 (by omega)]; exact (x7 jj hj).1
  have h8 : w.2 8 jj = nI (P (43 + jj)) := by rw [wk 8 (by omega)]; exact (x7 jj hj).2
  simp (disch := omega) only [inb_nI, gd_true, vl_e, cl, stf_2, h7, h8, jn_e, L0]
  obtain ⟨v, g1, g2, -, g4, g5⟩ := X_clear (f + 27 + 1 + 1 + 1) (jX5_prepare_116 (f + 27 + 1 + 1 + 1) (nI aw)) 21 0 (f + 27 + 1 + 1 + 1) (stf (stf w 24 (nI (P (40 + jj)))) 25 (nI (P (43 + jj)))) (by omega) (by omega)
  rw [g1]
  unfold jX5_prepare_116
  rw [L0]
  have hd : ∀ k, k ≠ 58 → v.2 k = w.2 k := fun k hk => g5 k hk
  obtain ⟨v', k1, k2, k3, k4⟩ := X_draw (f + 27 + 1 + 1 + 1) hP ha (P 46) 0 (f + 27 + 1 + 1 + 1) v (by omega) (by have := hP.1; omega) (by rw [g4]; show w.1 2 = _; rw [w1]; exact x3) (fun i hi => by rw [hd 9 (by omega), hd 10 (by omega), wk 9 (by omega), wk 10 (by omega)]; exact x8 i hi) (fun m hm => by rw [g2 m (by omega) hm]; rfl)
  refine ⟨v', k1, ⟨?_, ?_, ?_, k2, ?_, ?_⟩, fun k hk => ?_, fun k hk => ?_⟩
  · rw [k4 55 (by omega), hd 55 (by omega)]; exact w55
  · rw [k4 56 (by omega), hd 56 (by omega)]; exact w56
  · rw [k4 57 (by omega), hd 57 (by omega)]; exact w57
  · rw [k3, g4]; rfl
  · rw [k3, g4]; rfl
  · rw [k3, g4, stf_1, if_neg (by omega), stf_1, if_neg (by omega), w1]
  · rw [k4 k (by omega), hd k (by omega), wk k (by omega)]
/-- a hearing of a page: verdict, minute, lengths -/
def hP (P : Nat → Nat) (S : Nat → Nat) (cc jj : Nat) : Nat × Nat × Nat × Nat := hRun (bn (P (2 * cc))) (bn (P (2 * cc + 1))) (P (16 + 2 * cc)) (P (16 + (2 * cc + 1))) (P (40 + jj)) (P (43 + jj)) S 10 0 (P (8 + 2 * cc)) (P (8 + (2 * cc + 1)))
theorem X_held (F : Nat) (hF : 30 ≤ F) (u : St) {k0 l0 g0 k1 l1 g1 hb sl : Nat} {S : Nat → Nat} (h : TrX u k0 l0 g0 k1 l1 g1 hb sl S) (a1 : k0 ≤ 3) (a2 : k1 ≤ 3) (b1 : l0 < 1000) (b2 : l1 < 1000) (b3 : g0 < 1000) (b4 : g1 < 1000) (b5 : hb < 1000) (b6 : ∀ m, S m < 1000) (b7 : sl ≤ 9) :
    ∃ u', pX5_verdictHeld F u = some (nI (hRun (bn k0) (bn k1) g0 g1 hb sl S 10 0 l0 l1).1, u') ∧ TrX u' k0 (hRun (bn k0) (bn k1) g0 g1 hb sl S 10 0 l0 l1).2.2.1 g0 k1 (hRun (bn k0) (bn k1) g0 g1 hb sl S 10 0 l0 l1).2.2.2 g1 hb sl S ∧ u'.1 26 = nI (hRun (bn k0) (bn k1) g0 g1 hb sl S 10 0 l0 l1).2.1 ∧ eqT u u' := by
  unfold pX5_verdictHeld
  rw [vl_e, jn_e]
  obtain ⟨u', g1', g2, g3, g4⟩ := X_loop F a1 a2 b3 b4 b5 b6 b7 10 0 l0 l1 F (stf u 26 0) (by omega) ⟨h.1, h.2.1, h.2.2.1, h.2.2.2.1, h.2.2.2.2⟩ rfl (by omega) (by omega) b1 b2
  refine ⟨u', g1', g2, g3, eqT.tr ⟨fun k hk => ?_, fun k hk => rfl⟩ g4⟩
  rw [stf_1, if_neg (by omega)]
theorem X_now (F : Nat) (hF : 30 ≤ F) {c jn cc jj : Nat} {P : Nat → Nat} (u : St) (hc4 : c ≤ 4) (hj3 : jn ≤ 3) (hPg : PgOK c jn P) (hX : CtX 0 c jn P u) (hc : cc < c) (hj : jj < jn) :
    ∃ u', pX6_verdictNow F (nI cc) (nI jj) u = some (nI (hP P (stg P 0 (P 46)) cc jj).1, u') ∧ u'.2 56 0 = nI (hP P (stg P 0 (P 46)) cc jj).2.2.1 ∧ u'.2 56 1 = nI (hP P (stg P 0 (P 46)) cc jj).2.2.2 ∧ u'.1 26 = nI (hP P (stg P 0 (P 46)) cc jj).2.1 ∧ eqT u u' := by
  obtain ⟨w, g1, g2, g3⟩ := X_prepare F hF u hc4 hj3 hPg hX hc hj (aw := 0) (by omega)
  have q0 := hPg.2.2.1 (2 * cc) (by omega)
  have q1 := hPg.2.2.1 (2 * cc + 1) (by omega)
  have q2 := hPg.2.2.2.2.1 jj hj
  obtain ⟨w', k1, k2, k3, k4⟩ := X_held F hF w g2 q0.1 q1.1 (by omega) (by omega) (by omega) (by omega) (by omega) (fun m => by have := stg_bd hPg 0 (P 46) (Nat.le_refl _) m; omega) q2.2.2
  refine ⟨w', ?_, k2.2.1.1, k2.2.1.2, k3, g3.tr k4⟩
  unfold pX6_verdictNow pX6_prepare
  rw [L0, g1]
  simp only [bd_s]
  rw [k1]
  rfl
