/-- a hearing of a page: verdict, minute, lengths -/
def hP (P : Nat → Nat) (S : Nat → Nat) (cc jj : Nat) : Nat × Nat × Nat × Nat := hRun (bn (P (2 * cc))) (bn (P (2 * cc + 1))) (P (16 + 2 * cc)) (P (16 + (2 * cc + 1))) (P (40 + jj)) (P (43 + jj)) S 10 0 (P (8 + 2 * cc)) (P (8 + (2 * cc + 1)))
theorem X_held (F : Nat) (hF : 30 ≤ F) (u : St) {k0 l0 g0 k1 l1 g1 hb sl : Nat} {S : Nat → Nat} (h : TrX u k0 l0 g0 k1 l1 g1 hb sl S) (a1 : k0 ≤ 3) (a2 : k1 ≤ 3) (b1 : l0 < 1000) (b2 : l1 < 1000) (b3 : g0 < 1000) (b4 : g1 < 1000) (b5 : hb < 1000) (b6 : ∀ m, S m < 1000) (b7 : sl ≤ 9) :
    ∃ u', pX5_verdictHeld F u = some (nI (hRun (bn k0) (bn k1) g0 g1 hb sl S 10 0 l0 l1).1, u') ∧ TrX u' k0 (hRun (bn k0) (bn k1) g0 g1 hb sl S 10 0 l0 l1).2.2.1 g0 k1 (hRun (bn k0) (bn k1) g0 g1 hb sl S 10 0 l0 l1).2.2.2 g1 hb sl S ∧ u'.1 26 = nI (hRun (bn k0) (bn k1) g0 g1 hb sl S 10 0 l0 l1).2.1 ∧ eqT u u' := by
  unfold pX5_verdictHeld
  rw [vl_e, jn_e]
  obtain ⟨u', g1', g2, g3, g4⟩ := X_loop F a1 a2 b3 b4 b5 b6 b7 10 0 l0 l1 F (stf u 26 0) (by omega) ⟨h.1, h.2.1, h.2.2.1, h.2.2.2.1, h.2.2.2.2⟩ rfl (by omega) (by omega) b1 b2
  have q : eqT u (stf u 26 0) := ⟨fun k hk => by rw [stf_1, if_neg (by omega)], fun k hk => rfl⟩
  exact ⟨u', g1', g2, g3, q.tr g4⟩
theorem X_now (F : Nat) (hF : 30 ≤ F) {c jn cc jj : Nat} {P : Nat → Nat} (u : St) (hc4 : c ≤ 4) (hj3 : jn ≤ 3) (hPg : PgOK c jn P) (hX : CtX 0 c jn P u) (hc : cc < c) (hj : jj < jn) :
    ∃ u', pX6_verdictNow F (nI cc) (nI jj) u = some (nI (hP P (stg P 0 (P 46)) cc jj).1, u') ∧ u'.2 56 0 = nI (hP P (stg P 0 (P 46)) cc jj).2.2.1 ∧ u'.2 56 1 = nI (hP P (stg P 0 (P 46)) cc jj).2.2.2 ∧ u'.1 26 = nI (hP P (stg P 0 (P 46)) cc jj).2.1 ∧ eqT u u' := by
  obtain ⟨w, g1, g2, g3⟩ := X_prepare F hF u hc4 hj3 hPg hX hc hj (aw := 0) (by omega)
  have q0 := hPg.2.2.1 (2 * cc) (by omega)
  have q1 := hPg.2.2.1 (2 * cc + 1) (by omega)
  have q2 := hPg.2.2.2.2.1 jj hj
  obtain ⟨w', k1, k2, k3, k4⟩ := X_held F hF w g2 q0.1 q1.1 (by omega) (by omega) (by omega) (by omega) (by omega) (fun m => by have := stg_bd hPg 0 (P 46) (Nat.le_refl _) m; omega) q2.2.2
  refine ⟨w', ?_, k2.2.1.1, k2.2.1.2, k3, g3.tr k4⟩
  unfold pX6_verdictNow pX6_prepare
  rw [L0, g1]
  simp only [bd_s]
  rw [k1]
  rfl

