/-! PURE: a hearing for good -/
theorem CtX.frw {j c jn : Nat} {P : Nat → Nat} {u u' : St} (hj : 1 ≤ j) (hj4 : j < 4) (h : CtX j c jn P u) (e1 : ∀ k, 4 ≤ k → (k < 24 ∨ k = 29) → u'.1 k = u.1 k) (e2 : ∀ k, 13 ≤ k → (k < 52 ∨ k = 54 ∨ 60 ≤ k) → u'.2 k = u.2 k) : CtX j c jn P u' := by
  obtain ⟨h1, h2, h3, h4, h5, h6, h7, h8, h9⟩ := h
  refine ⟨by rw [e1 _ (by omega) (by omega)]; exact h1, by rw [e1 _ (by omega) (by omega)]; exact h2, by rw [e1 _ (by omega) (by omega)]; exact h3, by rw [e1 _ (by omega) (by omega)]; exact h4, ?_, ?_, ?_, ?_, ?_⟩
  · intro f hf; rw [e2 _ (by omega) (by omega), e2 _ (by omega) (by omega), e2 _ (by omega) (by omega)]; exact h5 f hf
  · intro f hf; rw [e2 _ (by omega) (by omega), e2 _ (by omega) (by omega), e2 _ (by omega) (by omega), e2 _ (by omega) (by omega)]; exact h6 f hf
  · intro f hf; rw [e2 _ (by omega) (by omega), e2 _ (by omega) (by omega)]; exact h7 f hf
  · intro f hf; rw [e2 _ (by omega) (by omega), e2 _ (by omega) (by omega)]; exact h8 f hf
  · intro f hf; rw [e2 _ (by omega) (by omega), e2 _ (by omega) (by omega)]; exact h9 f hf
theorem Rest.frw {c jn : Nat} {u v u' v' : St} (h : Rest c jn u v) (e1 : ∀ k, 4 ≤ k → (k < 24 ∨ k = 29) → u'.1 k = u.1 k) (e2 : ∀ k, 13 ≤ k → (k < 52 ∨ k = 54 ∨ 60 ≤ k) → u'.2 k = u.2 k) (f1 : ∀ k, (k = 7 ∨ k = 8 ∨ k = 15 ∨ k = 17 ∨ k = 21 ∨ k = 22) → v'.1 k = v.1 k) (f2 : ∀ k, (k = 1 ∨ (3 ≤ k ∧ k ≤ 5) ∨ k = 7 ∨ 9 ≤ k) → v'.2 k = v.2 k) (f3 : ∀ i, 68 ≤ i → i < 204 → v'.2 0 i = v.2 0 i) : Rest c jn u' v' := by
  obtain ⟨i0, i1, hs, ht, hw, htn, hsh, hc⟩ := h
  have img : ∀ k, k < 2 → RImg k c jn u v → RImg k c jn u' v' := fun k hk q => by
    rcases q with ⟨a, b⟩ | ⟨a, b, Q, q1, q2, q3⟩
    · exact Or.inl ⟨by rw [e2 66 (by omega) (by omega)]; exact a, by rw [f2 12 (by omega)]; exact b⟩
    · exact Or.inr ⟨by rw [e2 66 (by omega) (by omega)]; exact a, by rw [f2 12 (by omega)]; exact b, Q, q1, q2.frw (by omega) (by omega) e1 e2, fun i hi => by rw [f3 _ (by omega) (by omega)]; exact q3 i hi⟩
  refine ⟨img 0 (by omega) i0, img 1 (by omega) i1, ?_, ?_, ?_, ?_, ?_, ?_⟩
  · obtain ⟨n, a1, a2, a3, a4⟩ := hs
    refine ⟨n, a1, (e1 29 (by omega) (by omega)).trans a2, (f1 21 (by omega)).trans a3, fun i hi => ?_⟩
    rw [e2 60 (by omega) (by omega), e2 61 (by omega) (by omega), e2 62 (by omega) (by omega), f2 7 (by omega)]
    exact a4 i hi
  · obtain ⟨n, a1, a2, a3, a4⟩ := ht
    refine ⟨n, a1, (e1 17 (by omega) (by omega)).trans a2, (f1 7 (by omega)).trans a3, fun i hi => ?_⟩
    rw [e2 54 (by omega) (by omega), f2 3 (by omega)]
    exact a4 i hi
  · rw [e1 18 (by omega) (by omega), f1 8 (by omega)]; exact hw
  · rw [e1 16 (by omega) (by omega), f1 22 (by omega)]; exact htn
  · intro k hk
    have := hsh k hk
    unfold RSheet at this ⊢
    rw [e2 63 (by omega) (by omega), e2 64 (by omega) (by omega), e2 65 (by omega) (by omega), f2 9 (by omega), f2 10 (by omega), f2 11 (by omega)]
    exact this
  · obtain ⟨a1, a2, a3, a4, a5⟩ := hc
    exact ⟨(f1 15 (by omega)).trans a1, (f1 17 (by omega)).trans a2, (by rw [f2 1 (by omega)]; exact a3), (by rw [f2 4 (by omega)]; exact a4), by rw [f2 5 (by omega)]; exact a5⟩
theorem off_s (n : Nat) : off (n + 1) = nI n := by
  unfold off
  rw [if_neg (by omega), Nat.add_sub_cancel]
/-- the page after a hearing -/
def pgH (P : Nat → Nat) (a b r m l0 l1 : Nat) : Nat → Nat := fun j => if j = 24 + a then r else if j = 32 + a then m + 1 else if j = 36 + a then b + 1 else lw P a l0 l1 j
theorem pgH_o (P : Nat → Nat) {a b r m l0 l1 j : Nat} (h1 : j ≠ 24 + a) (h2 : j ≠ 32 + a) (h3 : j ≠ 36 + a) (h4 : j ≠ 8 + 2 * a) (h5 : j ≠ 8 + (2 * a + 1)) : pgH P a b r m l0 l1 j = P j := by
  unfold pgH
  rw [if_neg h1, if_neg h2, if_neg h3, lw_o P h4 h5]
theorem pgH_ok {c jn a b r m l0 l1 : Nat} {P : Nat → Nat} (h : PgOK c jn P) (hc4 : c ≤ 4) (hj : jn ≤ 3) (ha : a < c) (hb : b < jn) (hr : r ≤ 3) (hm : m ≤ 20) (h0 : l0 ≤ 99) (h1 : l1 ≤ 99) : PgOK c jn (pgH P a b r m l0 l1) := by
  obtain ⟨p1, p2, p3, p4, p5, p6, p7⟩ := h
  refine ⟨by rw [pgH_o P (by omega) (by omega) (by omega) (by omega) (by omega)]; exact p1, by rw [pgH_o P (by omega) (by omega) (by omega) (by omega) (by omega)]; exact p2, fun f hf => ?_, fun f hf => ?_, fun f hf => ?_, fun f hf => ?_, fun f hf => ?_⟩
  · rw [pgH_o P (j := f) (by omega) (by omega) (by omega) (by omega) (by omega), pgH_o P (j := 16 + f) (by omega) (by omega) (by omega) (by omega) (by omega)]
    obtain ⟨w0, w1, w2⟩ := p3 f hf
    refine ⟨w0, ?_, w2⟩
    unfold pgH lw
    rw [if_neg (by omega), if_neg (by omega), if_neg (by omega)]
    split
    · exact h0
    · split
      · exact h1
      · exact w1
  · rw [pgH_o P (j := 28 + f) (by omega) (by omega) (by omega) (by omega) (by omega)]
    obtain ⟨w0, w1, w2, w3⟩ := p4 f hf
    refine ⟨?_, w1, ?_, ?_⟩
    · unfold pgH lw
      split
      · exact hr
      · rw [if_neg (by omega), if_neg (by omega), if_neg (by omega), if_neg (by omega)]; exact w0
    · unfold pgH lw
      rw [if_neg (by omega)]
      split
      · omega
      · rw [if_neg (by omega), if_neg (by omega), if_neg (by omega)]; exact w2
    · unfold pgH lw
      rw [if_neg (by omega), if_neg (by omega)]
      split
      · omega
      · rw [if_neg (by omega), if_neg (by omega)]; exact w3
  · rw [pgH_o P (by omega) (by omega) (by omega) (by omega) (by omega), pgH_o P (by omega) (by omega) (by omega) (by omega) (by omega)]; exact p5 f hf
  · rw [pgH_o P (by omega) (by omega) (by omega) (by omega) (by omega)] at hf
    rw [pgH_o P (by omega) (by omega) (by omega) (by omega) (by omega), pgH_o P (by omega) (by omega) (by omega) (by omega) (by omega)]; exact p6 f hf
  · rw [pgH_o P (by omega) (by omega) (by omega) (by omega) (by omega)] at hf
    rw [pgH_o P (by omega) (by omega) (by omega) (by omega) (by omega), pgH_o P (by omega) (by omega) (by omega) (by omega) (by omega)]; exact p7 f hf
/-- the reference's page after judgesOn -/
theorem M_judges (F : Nat) (hF : 80 ≤ F) {p c jn aw mm ms cc jj : Nat} {P : Nat → Nat} (v : St) (hp : p < 6) (hc4 : c ≤ 4) (hj3 : jn ≤ 3) (hPg : PgOK c jn P) (hM : PgM p P v) (hE : MEnv aw mm ms v) (hc : cc < c) (hj : jj < jn) :
    ∃ v', pX7_judgesOn F (nI (68 * p)) (nI cc) (nI jj) v = some (nI (hP P (stm P aw mm ms (P 46)) cc jj).1, v') ∧ PgM p (pgH P cc jj (hP P (stm P aw mm ms (P 46)) cc jj).1 (hP P (stm P aw mm ms (P 46)) cc jj).2.1 (hP P (stm P aw mm ms (P 46)) cc jj).2.2.1 (hP P (stm P aw mm ms (P 46)) cc jj).2.2.2) v' ∧ (∀ k, k ≠ 18 → v'.1 k = v.1 k) ∧ (∀ k, k ≠ 0 → v'.2 k = v.2 k) ∧ (∀ i, (i < 68 * p ∨ 68 * p + 68 ≤ i) → v'.2 0 i = v.2 0 i) := by
  obtain ⟨w, g1, g2, g3, g4, g5, g6⟩ := M_hears F hF v hp hc4 hj3 hPg hM hE hc hj
  generalize hP P (stm P aw mm ms (P 46)) cc jj = H at *
  refine ⟨sta (sta (sta w 0 (nI (68 * p + 24 + cc)) (nI H.1)) 0 (nI (68 * p + 32 + cc)) (nI (H.2.1 + 1))) 0 (nI (68 * p + 36 + cc)) (nI (jj + 1)), ?_, fun k hk => ?_, fun k hk => g4 k hk, fun k hk => ?_, fun i hi => ?_⟩
  · unfold pX7_judgesOn
    rw [g1, bd_s]
    simp (disch := omega) only [L24, L32, L36, L1, nI_add, gd_i, vl_e, sta_1, g3]
  · rw [sta_h _ _ (by omega), sta_h _ _ (by omega), sta_h _ _ (by omega)]
    unfold pgH
    by_cases q1 : k = 24 + cc
    · rw [if_neg (by omega), if_neg (by omega), if_pos (by omega), if_pos q1]
    · by_cases q2 : k = 32 + cc
      · rw [if_neg (by omega), if_pos (by omega), if_neg q1, if_pos q2]
      · by_cases q3 : k = 36 + cc
        · rw [if_pos (by omega), if_neg q1, if_neg q2, if_pos q3]
        · rw [if_neg (by omega), if_neg (by omega), if_neg (by omega), if_neg q1, if_neg q2, if_neg q3]
          exact g2 k hk
  · rw [sta_m _ _ _ hk, sta_m _ _ _ hk, sta_m _ _ _ hk, g5 k hk]
  · rw [sta_h _ _ (by omega), if_neg (by omega), sta_h _ _ (by omega), if_neg (by omega), sta_h _ _ (by omega), if_neg (by omega), g6 i hi]
