/-! PURE: what a hearing is; how both sides hold a court -/
def bn (k : Nat) : Nat := ([3, 2, 1, 6] : List Nat).getD k 0
/-- the strongest draught of a minute, of those that don't stay away (the first n) -/
def stg (P : Nat → Nat) (away : Nat) : Nat → Nat → Nat
  | 0, _ => 0
  | n + 1, m => if away.testBit n = false ∧ P (47 + n) = m then max (stg P away n m) (P (51 + n)) else stg P away n m
def hGo (l0 l1 g0 g1 hb : Nat) : Nat := if hb = 1 then (if l0 < l1 then 1 else 0) else if hb = 2 then (if l0 < l1 then 0 else 1) else if hb = 3 then (if g1 < g0 then 1 else 0) else 0
/-- minute by minute: verdict, minute, lengths -/
def hRun (b0 b1 g0 g1 hb sl : Nat) (S : Nat → Nat) : Nat → Nat → Nat → Nat → Nat × Nat × Nat × Nat
  | 0, m, l0, l1 => (0, m, l0, l1)
  | n + 1, m, l0, l1 =>
    if l0 = 0 ∨ g0 < S m then (if l1 = 0 ∨ g1 < S m then (3, m, l0, l1) else (2, m, l0, l1))
    else if l1 = 0 ∨ g1 < S m then (1, m, l0, l1)
    else if m = sl then (if hGo l0 l1 g0 g1 hb = 0 then 2 else 1, m, l0, l1)
    else hRun b0 b1 g0 g1 hb sl S n (m + 1) (l0 - b0) (l1 - b1)
/-- bounds -/
theorem hRun_bd (b0 b1 g0 g1 hb sl : Nat) (S : Nat → Nat) : ∀ n m l0 l1, m ≤ sl → sl < m + n → 1 ≤ (hRun b0 b1 g0 g1 hb sl S n m l0 l1).1 ∧ (hRun b0 b1 g0 g1 hb sl S n m l0 l1).1 ≤ 3 ∧ (hRun b0 b1 g0 g1 hb sl S n m l0 l1).2.1 ≤ sl ∧ (hRun b0 b1 g0 g1 hb sl S n m l0 l1).2.2.1 ≤ l0 ∧ (hRun b0 b1 g0 g1 hb sl S n m l0 l1).2.2.2 ≤ l1
  | 0, m, l0, l1, h1, h2 => by omega
  | n + 1, m, l0, l1, h1, h2 => by
    unfold hRun
    by_cases c1 : l0 = 0 ∨ g0 < S m
    · rw [if_pos c1]
      by_cases c2 : l1 = 0 ∨ g1 < S m
      · rw [if_pos c2]; simp; omega
      · rw [if_neg c2]; simp; omega
    · rw [if_neg c1]
      by_cases c2 : l1 = 0 ∨ g1 < S m
      · rw [if_pos c2]; simp; omega
      · rw [if_neg c2]
        by_cases c3 : m = sl
        · rw [if_pos c3]
          by_cases c4 : hGo l0 l1 g0 g1 hb = 0
          · rw [if_pos c4]; simp; omega
          · rw [if_neg c4]; simp; omega
        · rw [if_neg c3]
          obtain ⟨g1', g2, g3, g4, g5⟩ := hRun_bd b0 b1 g0 g1 hb sl S n (m + 1) (l0 - b0) (l1 - b1) (by omega) (by omega)
          exact ⟨g1', g2, g3, by omega, by omega⟩
/-- a page: kinds from 0, lengths 8, guards 16, verdicts 24, appealed 28, ended 32 (one more; 0: never), by whom 36 (so), habits 40, slows 43, draughts 46, minutes 47, strengths 51, hearings 55, cases 56, judges 62 -/
def PgOK (c jn : Nat) (P : Nat → Nat) : Prop :=
  P 46 ≤ 4 ∧ P 55 ≤ 6 ∧ (∀ f, f < 2 * c → P f ≤ 3 ∧ P (8 + f) ≤ 99 ∧ P (16 + f) ≤ 9) ∧ (∀ i, i < c → P (24 + i) ≤ 3 ∧ P (28 + i) ≤ 1 ∧ P (32 + i) ≤ 22 ∧ P (36 + i) ≤ 3) ∧ (∀ j, j < jn → P (40 + j) ≤ 3 ∧ 1 ≤ P (43 + j) ∧ P (43 + j) ≤ 9) ∧ (∀ i, i < P 46 → P (47 + i) ≤ 20 ∧ 1 ≤ P (51 + i) ∧ P (51 + i) ≤ 9) ∧ (∀ i, i < P 55 → P (56 + i) < c ∧ P (62 + i) < jn)
def off (n : Nat) : Int32 := if n = 0 then -4 else nI (n - 1)
def CtX (j c jn : Nat) (P : Nat → Nat) (u : St) : Prop :=
  u.1 (4 * j + 0) = nI c ∧ u.1 (4 * j + 1) = nI jn ∧ u.1 (4 * j + 2) = nI (P 46) ∧ u.1 (4 * j + 3) = nI (P 55) ∧
  (∀ f, f < 2 * c → u.2 (13 * j + 0) f = nI (P f) ∧ u.2 (13 * j + 1) f = nI (P (8 + f)) ∧ u.2 (13 * j + 2) f = nI (P (16 + f))) ∧
  (∀ i, i < c → u.2 (13 * j + 3) i = nI (P (24 + i)) ∧ u.2 (13 * j + 4) i = nI (P (28 + i)) ∧ u.2 (13 * j + 5) i = off (P (32 + i)) ∧ u.2 (13 * j + 6) i = off (P (36 + i))) ∧
  (∀ i, i < jn → u.2 (13 * j + 7) i = nI (P (40 + i)) ∧ u.2 (13 * j + 8) i = nI (P (43 + i))) ∧
  (∀ i, i < P 46 → u.2 (13 * j + 9) i = nI (P (47 + i)) ∧ u.2 (13 * j + 10) i = nI (P (51 + i))) ∧
  (∀ i, i < P 55 → u.2 (13 * j + 11) i = nI (P (56 + i)) ∧ u.2 (13 * j + 12) i = nI (P (62 + i)))
def PgM (p : Nat) (P : Nat → Nat) (v : St) : Prop := ∀ k, k < 68 → v.2 0 (68 * p + k) = nI (P k)
/-- the two sides hold the same -/
def RCourt (c jn : Nat) (P : Nat → Nat) (u v : St) : Prop := c ≤ 4 ∧ jn ≤ 3 ∧ PgOK c jn P ∧ CtX 0 c jn P u ∧ v.1 0 = nI c ∧ v.1 1 = nI jn ∧ PgM 0 P v
def RImg (k c jn : Nat) (u v : St) : Prop := (u.2 66 k = 0 ∧ v.2 12 k = 0) ∨ (u.2 66 k = 1 ∧ v.2 12 k = 1 ∧ ∃ P, PgOK c jn P ∧ CtX (k + 1) c jn P u ∧ PgM (k + 1) P v)
def RSeen (c jn : Nat) (u v : St) : Prop := ∃ n, n ≤ 6 ∧ u.1 29 = nI n ∧ v.1 21 = nI n ∧ ∀ i, i < n → ∃ a b d : Nat, a < c ∧ b < jn ∧ 1 ≤ d ∧ d ≤ 3 ∧ u.2 60 i = nI a ∧ u.2 61 i = nI b ∧ u.2 62 i = nI d ∧ v.2 7 (3 * i) = nI a ∧ v.2 7 (3 * i + 1) = nI b ∧ v.2 7 (3 * i + 2) = nI d
def RTape (u v : St) : Prop := ∃ n, n ≤ 160 ∧ u.1 17 = nI n ∧ v.1 7 = nI n ∧ ∀ i, i < n → ∃ b : Nat, b ≤ 127 ∧ u.2 54 i = nI b ∧ v.2 3 i = nI b
def RSheet (k : Nat) (u v : St) : Prop := (u.2 65 k = -4 ∧ v.2 9 k = -4) ∨ ∃ ln n : Nat, ln ≤ 2 ∧ n ≤ 40 ∧ u.2 64 k = nI ln ∧ v.2 9 k = nI ln ∧ u.2 65 k = nI n ∧ v.2 10 k = nI n ∧ ∀ i, i < n → u.2 63 (40 * k + i) = v.2 11 (40 * k + i)
def RConst (v : St) : Prop := v.1 15 = 0 ∧ v.1 17 = 0 ∧ v.2 1 = u0M.2 1 ∧ v.2 4 = u0M.2 4 ∧ v.2 5 = u0M.2 5
/-- the fault as both sides hold it: the same, but behind six hearings, where the class says 5 and the reference 2 of a name -/
def FK (x y : Int32) : Prop := x = y ∨ (x = 5 ∧ y = 2)
def RR (u v : St) : Prop := ∃ (c jn : Nat) (P : Nat → Nat), RCourt c jn P u v ∧ RImg 0 c jn u v ∧ RImg 1 c jn u v ∧ RSeen c jn u v ∧ RTape u v ∧ FK (u.1 18) (v.1 8) ∧ u.1 16 = v.1 22 ∧ (∀ k, k < 4 → RSheet k u v) ∧ RConst v
theorem RR_start : RR u0X u0M := by
  refine ⟨0, 0, fun _ => 0, ⟨by omega, by omega, ?_, ?_, rfl, rfl, ?_⟩, Or.inl ⟨rfl, rfl⟩, Or.inl ⟨rfl, rfl⟩, ⟨0, by omega, rfl, rfl, fun i h => by omega⟩, ⟨0, by omega, rfl, rfl, fun i h => by omega⟩, Or.inl rfl, rfl, ?_, rfl, rfl, rfl, rfl, rfl⟩
  · exact ⟨Nat.zero_le _, Nat.zero_le _, fun f h => absurd h (Nat.not_lt_zero f), fun f h => absurd h (Nat.not_lt_zero f), fun f h => absurd h (Nat.not_lt_zero f), fun f h => absurd h (Nat.not_lt_zero f), fun f h => absurd h (Nat.not_lt_zero f)⟩
  · exact ⟨rfl, rfl, rfl, rfl, fun f h => absurd h (Nat.not_lt_zero f), fun f h => absurd h (Nat.not_lt_zero f), fun f h => absurd h (Nat.not_lt_zero f), fun f h => absurd h (Nat.not_lt_zero f), fun f h => absurd h (Nat.not_lt_zero f)⟩
  · intro k hk
    rfl
  · intro k hk
    match k, hk with
    | 0, _ => exact Or.inl ⟨rfl, rfl⟩
    | 1, _ => exact Or.inl ⟨rfl, rfl⟩
    | 2, _ => exact Or.inl ⟨rfl, rfl⟩
    | 3, _ => exact Or.inl ⟨rfl, rfl⟩
    | k + 4, h => exact absurd h (by omega)
/-- what only scratches leaves the rest -/
def eqX (u u' : St) : Prop := (∀ k, (k < 24 ∨ k = 29) → u'.1 k = u.1 k) ∧ ∀ k, (k < 52 ∨ k = 54 ∨ 60 ≤ k) → u'.2 k = u.2 k
def eqM (v v' : St) : Prop := (∀ i, i < 204 → v'.2 0 i = v.2 0 i) ∧ (v'.1 0 = v.1 0 ∧ v'.1 1 = v.1 1 ∧ v'.1 7 = v.1 7 ∧ v'.1 8 = v.1 8 ∧ v'.1 15 = v.1 15 ∧ v'.1 17 = v.1 17 ∧ v'.1 21 = v.1 21 ∧ v'.1 22 = v.1 22) ∧ (∀ k, (k = 1 ∨ (3 ≤ k ∧ k ≤ 5) ∨ k = 7 ∨ 9 ≤ k) → v'.2 k = v.2 k)
theorem eqX.rf {u : St} : eqX u u := ⟨fun _ _ => rfl, fun _ _ => rfl⟩
theorem eqM.rf {v : St} : eqM v v := ⟨fun _ _ => rfl, ⟨rfl, rfl, rfl, rfl, rfl, rfl, rfl, rfl⟩, fun _ _ => rfl⟩
theorem eqX.tr {u w x : St} (h : eqX u w) (h2 : eqX w x) : eqX u x := ⟨fun k q => (h2.1 k q).trans (h.1 k q), fun k q => (h2.2 k q).trans (h.2 k q)⟩
theorem eqM.tr {u w x : St} (h : eqM u w) (h2 : eqM w x) : eqM u x := by
  obtain ⟨a, ⟨b1, b2, b3, b4, b5, b6, b7, b8⟩, d⟩ := h
  obtain ⟨a', ⟨c1, c2, c3, c4, c5, c6, c7, c8⟩, d'⟩ := h2
  exact ⟨fun i q => (a' i q).trans (a i q), ⟨c1.trans b1, c2.trans b2, c3.trans b3, c4.trans b4, c5.trans b5, c6.trans b6, c7.trans b7, c8.trans b8⟩, fun k q => (d' k q).trans (d k q)⟩
theorem CtX.eq {j c jn : Nat} {P : Nat → Nat} {u u' : St} (hj : j < 4) (h : CtX j c jn P u) (e : eqX u u') : CtX j c jn P u' := by
  obtain ⟨h1, h2, h3, h4, h5, h6, h7, h8, h9⟩ := h
  refine ⟨by rw [e.1 _ (by omega)]; exact h1, by rw [e.1 _ (by omega)]; exact h2, by rw [e.1 _ (by omega)]; exact h3, by rw [e.1 _ (by omega)]; exact h4, ?_, ?_, ?_, ?_, ?_⟩
  · intro f hf; rw [e.2 _ (by omega), e.2 _ (by omega), e.2 _ (by omega)]; exact h5 f hf
  · intro f hf; rw [e.2 _ (by omega), e.2 _ (by omega), e.2 _ (by omega), e.2 _ (by omega)]; exact h6 f hf
  · intro f hf; rw [e.2 _ (by omega), e.2 _ (by omega)]; exact h7 f hf
  · intro f hf; rw [e.2 _ (by omega), e.2 _ (by omega)]; exact h8 f hf
  · intro f hf; rw [e.2 _ (by omega), e.2 _ (by omega)]; exact h9 f hf
theorem PgM.eq {p : Nat} {P : Nat → Nat} {v v' : St} (hp : p < 3) (h : PgM p P v) (e : eqM v v') : PgM p P v' := fun k hk => by
  rw [e.1 _ (by omega)]
  exact h k hk
theorem RR.eq {u v u' v' : St} (h : RR u v) (e : eqX u u') (f : eqM v v') : RR u' v' := by
  obtain ⟨c, jn, P, ⟨h1, h2, h3, h4, h5, h6, h7⟩, i0, i1, hs, ht, hw, htn, hsh, hc⟩ := h
  obtain ⟨f0, ⟨g0, g1, g7, g8, g15, g17, g21, g22⟩, fa⟩ := id f
  have img : ∀ k, k < 2 → RImg k c jn u v → RImg k c jn u' v' := fun k hk q => by
    rcases q with ⟨a, b⟩ | ⟨a, b, Q, q1, q2, q3⟩
    · exact Or.inl ⟨by rw [e.2 66 (by omega)]; exact a, by rw [fa 12 (by omega)]; exact b⟩
    · exact Or.inr ⟨by rw [e.2 66 (by omega)]; exact a, by rw [fa 12 (by omega)]; exact b, Q, q1, q2.eq (by omega) e, q3.eq (by omega) f⟩
  refine ⟨c, jn, P, ⟨h1, h2, h3, h4.eq (by omega) e, g0.trans h5, g1.trans h6, h7.eq (by omega) f⟩, img 0 (by omega) i0, img 1 (by omega) i1, ?_, ?_, ?_, ?_, ?_, ?_⟩
  · obtain ⟨n, a1, a2, a3, a4⟩ := hs
    refine ⟨n, a1, (e.1 29 (by omega)).trans a2, g21.trans a3, fun i hi => ?_⟩
    rw [e.2 60 (by omega), e.2 61 (by omega), e.2 62 (by omega), fa 7 (by omega)]
    exact a4 i hi
  · obtain ⟨n, a1, a2, a3, a4⟩ := ht
    refine ⟨n, a1, (e.1 17 (by omega)).trans a2, g7.trans a3, fun i hi => ?_⟩
    rw [e.2 54 (by omega), fa 3 (by omega)]
    exact a4 i hi
  · rw [e.1 18 (by omega), g8]; exact hw
  · rw [e.1 16 (by omega), g22]; exact htn
  · intro k hk
    have := hsh k hk
    unfold RSheet at this ⊢
    rw [e.2 63 (by omega), e.2 64 (by omega), e.2 65 (by omega), fa 9 (by omega), fa 10 (by omega), fa 11 (by omega)]
    exact this
  · obtain ⟨a1, a2, a3, a4, a5⟩ := hc
    exact ⟨g15.trans a1, g17.trans a2, (fa 1 (by omega)).trans a3, (fa 4 (by omega)).trans a4, (fa 5 (by omega)).trans a5⟩
