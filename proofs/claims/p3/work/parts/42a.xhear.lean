/-! PURE: the class's own hearing -/
def eqT (u u' : St) : Prop := (∀ k, (k < 24 ∨ 26 < k) → u'.1 k = u.1 k) ∧ (∀ k, (k < 55 ∨ 58 < k) → u'.2 k = u.2 k)
theorem eqT.rf {u : St} : eqT u u := ⟨fun _ _ => rfl, fun _ _ => rfl⟩
theorem eqT.tr {u w x : St} (h : eqT u w) (h2 : eqT w x) : eqT u x := ⟨fun k q => (h2.1 k q).trans (h.1 k q), fun k q => (h2.2 k q).trans (h.2 k q)⟩
theorem eqT.x {u u' : St} (h : eqT u u') : eqX u u' := ⟨fun k q => h.1 k (by omega), fun k q => h.2 k (by omega)⟩
def TrX (u : St) (k0 l0 g0 k1 l1 g1 hb sl : Nat) (S : Nat → Nat) : Prop :=
  (u.2 55 0 = nI k0 ∧ u.2 55 1 = nI k1) ∧ (u.2 56 0 = nI l0 ∧ u.2 56 1 = nI l1) ∧ (u.2 57 0 = nI g0 ∧ u.2 57 1 = nI g1) ∧ (∀ m, m < 21 → u.2 58 m = nI (S m)) ∧ u.1 24 = nI hb ∧ u.1 25 = nI sl
theorem X_burns (F : Nat) (u : St) {s l g t m : Nat} (hs : s < 2) (h1 : u.2 56 s = nI l) (h2 : u.2 57 s = nI g) (h3 : u.1 26 = nI m) (hm : m < 21) (h4 : u.2 58 m = nI t) (hl : l < 1000) (hg : g < 1000) (ht : t < 1000) : pX5_burnsStill F (nI s) u = some (b01 (0 < l ∧ t ≤ g), u) := by
  unfold pX5_burnsStill
  simp (disch := omega) only [L0, inb_nI, gd_true, cl, h1, h2, h3, h4, leI, ltI]
  by_cases c1 : l ≤ 0
  · rw [if_pos c1, b01_f (by omega)]; rfl
  · rw [if_neg c1]
    by_cases c2 : g < t
    · rw [if_pos c2, b01_f (by omega)]; rfl
    · rw [if_neg c2, b01_t (by omega)]
theorem X_goes (F : Nat) (u : St) {k0 l0 g0 k1 l1 g1 hb sl : Nat} {S : Nat → Nat} (h : TrX u k0 l0 g0 k1 l1 g1 hb sl S) (b1 : l0 < 1000) (b2 : l1 < 1000) (b3 : g0 < 1000) (b4 : g1 < 1000) (b5 : hb < 1000) : pX5_goesTo F u = some (nI (hGo l0 l1 g0 g1 hb), u) := by
  obtain ⟨-, ⟨e1, e2⟩, ⟨e3, e4⟩, -, e5, -⟩ := h
  unfold pX5_goesTo
  simp (disch := omega) only [jn_e, L0, L1, L2, L3, inb_nI, gd_true, cl, e1, e2, e3, e4, e5, leI, eqI, subI]
  have c1 : l0 < l1 ↔ ¬ l1 ≤ l0 := by omega
  have c2 : g1 < g0 ↔ ¬ g0 ≤ g1 := by omega
  simp only [hGo, c1, c2]
  by_cases d0 : l1 ≤ l0 <;> by_cases d1 : hb = 1 <;> by_cases d2 : hb = 2 <;> by_cases d3 : hb = 3 <;> by_cases d4 : g0 ≤ g1 <;> simp [d0, d1, d2, d3, d4]
/-- the end of a hearing, as it stands in its last minute -/
def hEnd (l0 l1 g0 g1 hb t : Nat) : Nat := if l0 = 0 ∨ g0 < t then (if l1 = 0 ∨ g1 < t then 3 else 2) else if l1 = 0 ∨ g1 < t then 1 else if hGo l0 l1 g0 g1 hb = 0 then 2 else 1
theorem X_fin (F : Nat) (u : St) {k0 l0 g0 k1 l1 g1 hb sl m : Nat} {S : Nat → Nat} (h : TrX u k0 l0 g0 k1 l1 g1 hb sl S) (b1 : l0 < 1000) (b2 : l1 < 1000) (b3 : g0 < 1000) (b4 : g1 < 1000) (b5 : hb < 1000) (h3 : u.1 26 = nI m) (hm : m < 21) (b6 : S m < 1000) : jX5_verdictHeld_99 F u = some (nI (hEnd l0 l1 g0 g1 hb (S m)), u) := by
  have hB0 := X_burns F u (s := 0) (by omega) h.2.1.1 h.2.2.1.1 h3 hm (h.2.2.2.1 m hm) b1 b3 b6
  have hB1 := X_burns F u (s := 1) (by omega) h.2.1.2 h.2.2.1.2 h3 hm (h.2.2.2.1 m hm) b2 b4 b6
  have hG := X_goes F u h b1 b2 b3 b4 b5
  unfold jX5_verdictHeld_99
  simp only [jn_e, L0, L1, L2, L3, hB0, hB1, bd_s, b01_n0, hG]
  unfold hEnd
  by_cases c0 : 0 < l0 ∧ S m ≤ g0
  · rw [if_pos c0, if_neg (show ¬ (l0 = 0 ∨ g0 < S m) by omega)]
    by_cases c1 : 0 < l1 ∧ S m ≤ g1
    · rw [if_pos c1, if_neg (show ¬ (l1 = 0 ∨ g1 < S m) by omega)]
      by_cases c2 : hGo l0 l1 g0 g1 hb = 0
      · rw [c2]; simp
      · have : ¬ nI (hGo l0 l1 g0 g1 hb) = nI 0 := by
          rw [eqI (by unfold hGo; split <;> (try split) <;> (try split) <;> (try split) <;> omega) (by omega)]; exact c2
        rw [if_neg this, if_neg c2]
    · rw [if_neg c1, if_pos (show (l1 = 0 ∨ g1 < S m) by omega)]
      simp only [c0, and_self, if_true]
  · rw [if_neg c0, if_pos (show (l0 = 0 ∨ g0 < S m) by omega)]
    by_cases c1 : 0 < l1 ∧ S m ≤ g1
    · rw [if_neg (show ¬ (l1 = 0 ∨ g1 < S m) by omega)]
      simp only [c0, c1, and_self, if_true, if_false]
    · rw [if_pos (show (l1 = 0 ∨ g1 < S m) by omega)]
      simp only [c0, c1, if_false]
