def only58 (u u' : St) : Prop := u'.1 = u.1 ∧ ∀ k, k ≠ 58 → u'.2 k = u.2 k
theorem X_clear (F : Nat) (J : St → Option (Unit × St)) : ∀ (k m fuel : Nat) (u : St), m + k = 21 → k < fuel → ∃ u', lq1 (bX5_prepare_92 F J) fuel (nI m) u = J u' ∧ (∀ i, m ≤ i → i < 21 → u'.2 58 i = nI 0) ∧ (∀ i, i < m → u'.2 58 i = u.2 58 i) ∧ only58 u u'
  | k, m, 0, u, hm, hf => by omega
  | 0, m, fuel + 1, u, hm, hf => by
    refine ⟨u, ?_, fun i h1 h2 => by omega, fun i h => rfl, rfl, fun k hk => rfl⟩
    rw [lq1_s]
    unfold bX5_prepare_92
    rw [if_pos (show Int32.ofNat 21 ≤ nI m from (leI (a := 21) (by omega) (by omega)).mpr (by omega))]
  | k + 1, m, fuel + 1, u, hm, hf => by
    have e : lq1 (bX5_prepare_92 F J) (fuel + 1) (nI m) u = lq1 (bX5_prepare_92 F J) fuel (nI (m + 1)) (sta u 58 (nI m) (nI 0)) := by
      rw [lq1_s]
      generalize lq1 (bX5_prepare_92 F J) fuel = self
      unfold bX5_prepare_92
      rw [if_neg (show ¬ Int32.ofNat 21 ≤ nI m from fun q => absurd ((leI (a := 21) (by omega) (by omega)).mp q) (by omega))]
      simp (disch := omega) only [inb_nI, gd_true, vl_e, L0, L1, nI_add]
    rw [e]
    obtain ⟨u', g1, g2, g3, g4, g5⟩ := X_clear F J k (m + 1) fuel (sta u 58 (nI m) (nI 0)) (by omega) (by omega)
    refine ⟨u', g1, fun i h1 h2 => ?_, fun i h => ?_, g4.trans rfl, fun j hj => (g5 j hj).trans (by rw [sta_2, if_neg hj])⟩
    · by_cases hi : i = m
      · rw [g3 i (by omega), sta_2, if_pos rfl, cl (by omega), hi, upd_s]
      · exact g2 i (by omega) h2
    · rw [g3 i (by omega), sta_2, if_pos rfl, cl (by omega), upd_n (by omega)]
theorem sh_bit : ∀ aw, aw < 16 → ∀ i, i < 4 → (((nI aw >>> (nI i &&& nI 31)) &&& nI 1) = nI 0 ↔ aw.testBit i = false) := by decide +kernel
theorem X_blows (F : Nat) (u : St) {m t x : Nat} (hm : m < 21) (ht : t < 1000) (hx : x < 1000) (h : u.2 58 m = nI x) : pX5_blows F (nI m) (nI t) u = some ((), sta u 58 (nI m) (nI (max x t))) := by
  unfold pX5_blows
  simp (disch := omega) only [inb_nI, gd_true, vl_e, cl, h, ltI]
  by_cases c : x < t
  · rw [if_pos c, Nat.max_eq_right (by omega)]
  · rw [if_neg c, Nat.max_eq_left (by omega)]
theorem stg_bd {c jn : Nat} {P : Nat → Nat} (h : PgOK c jn P) (aw : Nat) : ∀ n, n ≤ P 46 → ∀ m, stg P aw n m ≤ 9
  | 0, _, m => by unfold stg; omega
  | n + 1, hn, m => by
    have h1 := stg_bd h aw n (by omega) m
    have h2 := (h.2.2.2.2.2.1 n (by omega)).2.2
    unfold stg
    split
    · exact Nat.max_le.mpr ⟨h1, h2⟩
    · exact h1
theorem X_draw (F : Nat) {c jn aw : Nat} {P : Nat → Nat} (hP : PgOK c jn P) (ha : aw < 16) : ∀ (k i fuel : Nat) (u : St), i + k = P 46 → k < fuel → u.1 2 = nI (P 46) → (∀ i, i < P 46 → u.2 9 i = nI (P (47 + i)) ∧ u.2 10 i = nI (P (51 + i))) → (∀ m, m < 21 → u.2 58 m = nI (stg P aw i m)) → ∃ u', lq1 (bX5_prepare_119 F (nI aw)) fuel (nI i) u = some ((), u') ∧ (∀ m, m < 21 → u'.2 58 m = nI (stg P aw (P 46) m)) ∧ only58 u u'
  | k, i, 0, u, hm, hf, e1, e2, e3 => by omega
  | 0, i, fuel + 1, u, hm, hf, e1, e2, e3 => by
    have h4 := hP.1
    refine ⟨u, ?_, fun m h => by rw [e3 m h, show i = P 46 by omega], rfl, fun k hk => rfl⟩
    rw [lq1_s]
    unfold bX5_prepare_119
    rw [e1, if_pos ((leI (by omega) (by omega)).mpr (by omega))]
  | k + 1, i, fuel + 1, u, hm, hf, e1, e2, e3 => by
    have h4 := hP.1
    obtain ⟨h5, h6, h7⟩ := hP.2.2.2.2.2.1 i (by omega)
    have hb := stg_bd hP aw i (by omega) (P (47 + i))
    by_cases c : aw.testBit i = false
    · have e : lq1 (bX5_prepare_119 F (nI aw)) (fuel + 1) (nI i) u = lq1 (bX5_prepare_119 F (nI aw)) fuel (nI (i + 1)) (sta u 58 (nI (P (47 + i))) (nI (max (stg P aw i (P (47 + i))) (P (51 + i))))) := by
        rw [lq1_s]
        generalize lq1 (bX5_prepare_119 F (nI aw)) fuel = self
        unfold bX5_prepare_119
        rw [e1, if_neg (show ¬ nI (P 46) ≤ nI i from fun q => absurd ((leI (by omega) (by omega)).mp q) (by omega))]
        simp only [jn_e, L0, L1, L31]
        rw [if_pos ((sh_bit aw ha i (by omega)).mpr c), cl (by omega), (e2 i (by omega)).1, (e2 i (by omega)).2, X_blows F u (x := stg P aw i (P (47 + i))) (by omega) (by omega) (by omega) (e3 _ (by omega))]
        simp (disch := omega) only [inb_nI, gd_true, bd_s, nI_add]
      rw [e]
      obtain ⟨u', g1, g2, g3, g4⟩ := X_draw F hP ha k (i + 1) fuel (sta u 58 (nI (P (47 + i))) (nI (max (stg P aw i (P (47 + i))) (P (51 + i))))) (by omega) (by omega) e1 e2 (fun m hm => by
        rw [sta_2, if_pos rfl, cl (by omega)]
        by_cases hq : m = P (47 + i)
        · rw [hq, upd_s, stg, if_pos ⟨c, rfl⟩]
        · rw [upd_n hq, e3 m hm, stg, if_neg (fun z => hq z.2.symm)])
      exact ⟨u', g1, g2, g3.trans rfl, fun j hj => (g4 j hj).trans (by rw [sta_2, if_neg hj])⟩
    · have e : lq1 (bX5_prepare_119 F (nI aw)) (fuel + 1) (nI i) u = lq1 (bX5_prepare_119 F (nI aw)) fuel (nI (i + 1)) u := by
        rw [lq1_s]
        generalize lq1 (bX5_prepare_119 F (nI aw)) fuel = self
        unfold bX5_prepare_119
        rw [e1, if_neg (show ¬ nI (P 46) ≤ nI i from fun q => absurd ((leI (by omega) (by omega)).mp q) (by omega))]
        simp only [jn_e, L0, L1, L31]
        rw [if_neg (fun q => c ((sh_bit aw ha i (by omega)).mp q)), nI_add]
      rw [e]
      obtain ⟨u', g1, g2, g3, g4⟩ := X_draw F hP ha k (i + 1) fuel u (by omega) (by omega) e1 e2 (fun m hm => by rw [e3 m hm, stg, if_neg (fun z => c z.1)])
      exact ⟨u', g1, g2, g3, g4⟩
