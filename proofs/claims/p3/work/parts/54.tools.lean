/-! PURE: tools -/
theorem lq1_up {ρ : Type} {b : (Int32 → St → Option ρ) → Int32 → St → Option ρ} {n : Nat} (I : Nat → St → Prop) (Q : Option ρ → Prop) (stop : ∀ s u, I n u → Q (b s (nI n) u)) (step : ∀ s i u, i < n → I i u → Q (b s (nI i) u) ∨ ∃ u', b s (nI i) u = s (nI (i + 1)) u' ∧ I (i + 1) u') : ∀ (k i F : Nat) (u : St), i + k = n → k < F → I i u → Q (lq1 b F (nI i) u)
  | k, i, 0, u, h1, h2, h3 => by omega
  | 0, i, F + 1, u, h1, h2, h3 => by
    have e : i = n := by omega
    subst e
    rw [lq1_s]
    exact stop _ u h3
  | k + 1, i, F + 1, u, h1, h2, h3 => by
    rw [lq1_s]
    rcases step (lq1 b F) i u (by omega) h3 with q | ⟨u', q1, q2⟩
    · exact q
    · rw [q1]
      exact lq1_up I Q stop step k (i + 1) F u' (by omega) (by omega) q2
theorem lq2_up {A ρ : Type} {b : (A → Int32 → St → Option ρ) → A → Int32 → St → Option ρ} {n : Nat} (I : Nat → A → St → Prop) (Q : Option ρ → Prop) (stop : ∀ s x u, I n x u → Q (b s x (nI n) u)) (step : ∀ s i x u, i < n → I i x u → Q (b s x (nI i) u) ∨ ∃ x' u', b s x (nI i) u = s x' (nI (i + 1)) u' ∧ I (i + 1) x' u') : ∀ (k i F : Nat) (x : A) (u : St), i + k = n → k < F → I i x u → Q (lq2 b F x (nI i) u)
  | k, i, 0, x, u, h1, h2, h3 => by omega
  | 0, i, F + 1, x, u, h1, h2, h3 => by
    have e : i = n := by omega
    subst e
    rw [lq2_s]
    exact stop _ x u h3
  | k + 1, i, F + 1, x, u, h1, h2, h3 => by
    rw [lq2_s]
    rcases step (lq2 b F) i x u (by omega) h3 with q | ⟨x', u', q1, q2⟩
    · exact q
    · rw [q1]
      exact lq2_up I Q stop step k (i + 1) F x' u' (by omega) (by omega) q2
theorem lq3_up {A B ρ : Type} {b : (A → B → Int32 → St → Option ρ) → A → B → Int32 → St → Option ρ} {n : Nat} (I : Nat → A → B → St → Prop) (Q : Option ρ → Prop) (stop : ∀ s x y u, I n x y u → Q (b s x y (nI n) u)) (step : ∀ s i x y u, i < n → I i x y u → Q (b s x y (nI i) u) ∨ ∃ x' y' u', b s x y (nI i) u = s x' y' (nI (i + 1)) u' ∧ I (i + 1) x' y' u') : ∀ (k i F : Nat) (x : A) (y : B) (u : St), i + k = n → k < F → I i x y u → Q (lq3 b F x y (nI i) u)
  | k, i, 0, x, y, u, h1, h2, h3 => by omega
  | 0, i, F + 1, x, y, u, h1, h2, h3 => by
    have e : i = n := by omega
    subst e
    rw [lq3_s]
    exact stop _ x y u h3
  | k + 1, i, F + 1, x, y, u, h1, h2, h3 => by
    rw [lq3_s]
    rcases step (lq3 b F) i x y u (by omega) h3 with q | ⟨x', y', u', q1, q2⟩
    · exact q
    · rw [q1]
      exact lq3_up I Q stop step k (i + 1) F x' y' u' (by omega) (by omega) q2
theorem nI_s (i : Nat) : nI i + 1 = nI (i + 1) := by rw [L1, nI_add]
theorem nle {a b : Nat} (h : b < a) (ha : a < 2147483648) : ¬ nI a ≤ nI b := fun q => absurd ((leI ha (by omega)).mp q) (by omega)
theorem yle {a b : Nat} (h : a ≤ b) (hb : b < 2147483648) : nI a ≤ nI b := (leI (by omega) hb).mpr h
theorem nlt {a b : Nat} (h : b ≤ a) (ha : a < 2147483648) : ¬ nI a < nI b := fun q => absurd ((ltI ha (by omega)).mp q) (by omega)
theorem ylt {a b : Nat} (h : a < b) (hb : b < 2147483648) : nI a < nI b := (ltI (by omega) hb).mpr h
theorem neI {a b : Nat} (h : a ≠ b) (ha : a < 2147483648) (hb : b < 2147483648) : ¬ nI a = nI b := fun q => h ((eqI ha hb).mp q)
/-- bits, counts, sums -/
def bI (q : Nat → Bool) : Nat → Int32
  | 0 => 0
  | n + 1 => if q n = true then bI q n ||| ((1 : Int32) <<< (nI n &&& 31)) else bI q n ||| 0
def bN (q : Nat → Bool) : Nat → Nat
  | 0 => 0
  | n + 1 => bN q n + if q n = true then 2 ^ n else 0
def cn (q : Nat → Bool) : Nat → Nat
  | 0 => 0
  | n + 1 => cn q n + if q n = true then 1 else 0
def sm (f : Nat → Nat) : Nat → Nat
  | 0 => 0
  | n + 1 => sm f n + f n
def pop : Nat → Nat → Nat
  | 0, _ => 0
  | n + 1, k => k % 2 + pop n (k / 2)
theorem pop_0 : ∀ n, pop n 0 = 0
  | 0 => rfl
  | n + 1 => by
    unfold pop
    rw [show 0 / 2 = 0 from rfl, pop_0 n]
theorem bI_c {q q' : Nat → Bool} : ∀ n, (∀ i, i < n → q i = q' i) → bI q n = bI q' n
  | 0, _ => rfl
  | n + 1, h => by
    unfold bI
    rw [h n (by omega), bI_c n (fun i hi => h i (by omega))]
theorem cn_c {q q' : Nat → Bool} : ∀ n, (∀ i, i < n → q i = q' i) → cn q n = cn q' n
  | 0, _ => rfl
  | n + 1, h => by
    unfold cn
    rw [h n (by omega), cn_c n (fun i hi => h i (by omega))]
theorem sm_c {q q' : Nat → Nat} : ∀ n, (∀ i, i < n → q i = q' i) → sm q n = sm q' n
  | 0, _ => rfl
  | n + 1, h => by
    unfold sm
    rw [h n (by omega), sm_c n (fun i hi => h i (by omega))]
theorem cn_le (q : Nat → Bool) : ∀ n, cn q n ≤ n
  | 0 => Nat.le_refl _
  | n + 1 => by
    have := cn_le q n
    unfold cn
    split <;> omega
theorem cn_sm {f : Nat → Nat} : ∀ n, (∀ i, i < n → f i ≤ 1) → cn (fun i => decide (f i = 1)) n = sm f n
  | 0, _ => rfl
  | n + 1, h => by
    have h1 := h n (by omega)
    unfold cn sm
    rw [cn_sm n (fun i hi => h i (by omega))]
    by_cases c : f n = 1
    · rw [if_pos (decide_eq_true c), c]
    · rw [if_neg (by simp [c]), show f n = 0 by omega]
theorem bI_k (q : Nat → Bool) : ∀ n, n ≤ 4 → bI q n = nI (bN q n) ∧ bN q n < 16 ∧ pop 4 (bN q n) = cn q n
  | 0, _ => by
    show (0 : Int32) = nI 0 ∧ 0 < 16 ∧ pop 4 0 = 0
    decide +kernel
  | 1, _ => by
    simp only [bI, bN, cn]
    cases q 0 <;> decide +kernel
  | 2, _ => by
    simp only [bI, bN, cn]
    cases q 0 <;> cases q 1 <;> decide +kernel
  | 3, _ => by
    simp only [bI, bN, cn]
    cases q 0 <;> cases q 1 <;> cases q 2 <;> decide +kernel
  | 4, _ => by
    simp only [bI, bN, cn]
    cases q 0 <;> cases q 1 <;> cases q 2 <;> cases q 3 <;> decide +kernel
  | n + 5, h => by omega
/-- the machine's own counting of bits -/
def bcE (p1 : Int32) : Int32 :=
  let v1 := p1 - ((ushr p1 1) &&& 1431655765)
  let v2 := (v1 &&& 858993459) + ((ushr v1 2) &&& 858993459)
  let v3 := (v2 + (ushr v2 4)) &&& 252645135
  let v4 := v3 + (ushr v3 8)
  let v5 := v4 + (ushr v4 16)
  v5 &&& 63
theorem bcE_e (F : Nat) (x : Int32) (u : St) : pJ6_bitCount_0f7a4 F x u = some (bcE x, u) := rfl
theorem bcE_n : ∀ k, k < 16 → bcE (nI k) = nI (pop 4 k) := by decide +kernel
theorem X_pop (F : Nat) (q : Nat → Bool) {n : Nat} (hn : n ≤ 4) (u : St) : pJ6_bitCount_0f7a4 F (bI q n) u = some (nI (cn q n), u) := by
  obtain ⟨h1, h2, h3⟩ := bI_k q n hn
  rw [bcE_e, h1, bcE_n _ h2, h3]
theorem m_and1 : ∀ k, k < 16 → (nI k &&& 1) = nI (k % 2) ∧ (nI k >>> ((1 : Int32) &&& 31)) = nI (k / 2) := by decide +kernel
theorem M_popL (G : Nat) : ∀ (n k a F : Nat) (v : St), k < 2 ^ n → k < 16 → n < F → lq2 (bX7_bitsOf_4 G) F (nI a) (nI k) v = some (nI (a + pop n k), v)
  | n, k, a, 0, v, h1, h2, h4 => by omega
  | 0, k, a, F + 1, v, h1, h2, h4 => by
    have e : k = 0 := by simp at h1; exact h1
    subst e
    rw [lq2_s]
    unfold bX7_bitsOf_4
    rw [if_pos (show nI 0 ≤ (0 : Int32) from by decide), pop]
    rfl
  | n + 1, k, a, F + 1, v, h1, h2, h4 => by
    rw [lq2_s]
    by_cases c : k = 0
    · subst c
      unfold bX7_bitsOf_4
      rw [if_pos (show nI 0 ≤ (0 : Int32) from by decide), pop_0]
      rfl
    · have e := M_popL G n (k / 2) (a + k % 2) F v (by rw [Nat.pow_succ] at h1; omega) (by omega) (by omega)
      generalize lq2 (bX7_bitsOf_4 G) F = self at e ⊢
      unfold bX7_bitsOf_4
      obtain ⟨m1, m2⟩ := m_and1 k h2
      rw [if_neg (show ¬ nI k ≤ 0 from by rw [L0]; exact nle (by omega) (by omega)), m1, m2]
      simp only [vl_e, nI_add]
      rw [e, pop, Nat.add_assoc]
theorem M_pop (F : Nat) (hF : 80 ≤ F) (q : Nat → Bool) {n : Nat} (hn : n ≤ 4) (v : St) : pX7_bitsOf F (bI q n) v = some (nI (cn q n), v) := by
  obtain ⟨h1, h2, h3⟩ := bI_k q n hn
  unfold pX7_bitsOf
  have e := M_popL F 4 (bN q n) 0 F v (by omega) h2 (by omega)
  rw [h1, L0, e, Nat.zero_add, h3]
/-- the class's bits of a row -/
theorem X_bits (F : Nat) (hF : 80 ≤ F) (u : St) {arr n val : Nat} (f : Nat → Nat) (hn : n ≤ lenX arr) (hn9 : n ≤ 9) (hl : lenX arr < 1000) (hv : val < 1000) (hf : ∀ i, i < n → f i < 1000 ∧ u.2 arr i = nI (f i)) : pX6_bitsOf F arr (nI n) (nI val) u = some (bI (fun i => decide (f i = val)) n, u) := by
  unfold pX6_bitsOf
  refine lq2_up (n := n) (I := fun i x w => x = bI (fun i => decide (f i = val)) i ∧ w = u) (Q := fun o => o = some (bI (fun i => decide (f i = val)) n, u)) ?_ ?_ n 0 F 0 u (by omega) (by omega) ⟨rfl, rfl⟩
  · rintro s x w ⟨rfl, rfl⟩
    unfold bX6_bitsOf_5
    rw [if_pos (yle (Nat.le_refl _) (by omega))]
  · rintro s i x w hi ⟨rfl, rfl⟩
    obtain ⟨f1, f2⟩ := hf i hi
    refine Or.inr ⟨bI (fun i => decide (f i = val)) (i + 1), w, ?_, rfl, rfl⟩
    unfold bX6_bitsOf_5
    rw [if_neg (nle hi (by omega)), if_neg (show ¬ Int32.ofNat (lenX arr) ≤ nI i from nle (by omega) (by omega)), gd_i (by omega) (by omega), cl (by omega), f2]
    simp only [jn_e, vl_e, nI_s]
    rw [bI]
    by_cases c : f i = val
    · rw [c, if_pos rfl, if_pos (decide_eq_true rfl)]
    · rw [if_neg (neI c (by omega) (by omega)), if_neg (by simp [c])]
/-- the reference's bits of a page's verdicts -/
theorem M_won (F : Nat) (hF : 80 ≤ F) (v : St) {p c val : Nat} {Q : Nat → Nat} (hp : p < 6) (hc : c ≤ 4) (h0 : v.1 0 = nI c) (hM : PgM p Q v) (hv : val < 1000) (hq : ∀ i, i < c → Q (24 + i) < 1000) : pX7_wonOn F (nI (68 * p)) (nI val) v = some (bI (fun i => decide (Q (24 + i) = val)) c, v) := by
  unfold pX7_wonOn
  refine lq2_up (n := c) (I := fun i x w => x = bI (fun i => decide (Q (24 + i) = val)) i ∧ w = v) (Q := fun o => o = some (bI (fun i => decide (Q (24 + i) = val)) c, v)) ?_ ?_ c 0 F 0 v (by omega) (by omega) ⟨rfl, rfl⟩
  · rintro s x w ⟨rfl, rfl⟩
    unfold bX7_wonOn_5
    rw [h0, if_pos (yle (Nat.le_refl _) (by omega))]
  · rintro s i x w hi ⟨rfl, rfl⟩
    have f1 := hq i hi
    refine Or.inr ⟨bI (fun i => decide (Q (24 + i) = val)) (i + 1), w, ?_, rfl, rfl⟩
    unfold bX7_wonOn_5
    rw [h0, if_neg (nle hi (by omega)), L24, nI_add, nI_add, gd_i (by omega) (by omega), cl (by omega), show 68 * p + 24 + i = 68 * p + (24 + i) by omega, hM _ (by omega)]
    simp only [jn_e, vl_e, nI_s]
    rw [bI]
    by_cases c : Q (24 + i) = val
    · rw [c, if_pos rfl, if_pos (decide_eq_true rfl)]
    · rw [if_neg (neI c (by omega) (by omega)), if_neg (by simp [c])]
theorem X_sum (F : Nat) (hF : 80 ≤ F) (u : St) {arr c : Nat} (f : Nat → Nat) (hn : 2 * c ≤ lenX arr) (hc : c ≤ 4) (hl : lenX arr < 1000) (h0 : u.1 0 = nI c) (hf : ∀ i, i < 2 * c → u.2 arr i = nI (f i)) : pX0_sumOf F 0 arr u = some (nI (sm f (2 * c)), u) := by
  unfold pX0_sumOf
  refine lq2_up (n := 2 * c) (I := fun i x w => x = nI (sm f i) ∧ w = u) (Q := fun o => o = some (nI (sm f (2 * c)), u)) ?_ ?_ (2 * c) 0 F 0 u (by omega) (by omega) ⟨rfl, rfl⟩
  · rintro s x w ⟨rfl, rfl⟩
    unfold bX0_sumOf_4
    rw [show 4 * 0 + 0 = 0 from rfl, h0, L2, pk_mul, if_pos (yle (Nat.le_refl _) (by omega))]
  · rintro s i x w hi ⟨rfl, rfl⟩
    refine Or.inr ⟨nI (sm f (i + 1)), w, ?_, rfl, rfl⟩
    unfold bX0_sumOf_4
    rw [show 4 * 0 + 0 = 0 from rfl, h0, L2, pk_mul, if_neg (nle hi (by omega)), if_neg (show ¬ Int32.ofNat (lenX arr) ≤ nI i from nle (by omega) (by omega)), gd_i (by omega) (by omega), cl (by omega), hf i hi, nI_add, vl_e, nI_s, sm]
theorem M_lens (F : Nat) (hF : 80 ≤ F) (v : St) {p c : Nat} {Q : Nat → Nat} (hp : p < 6) (hc : c ≤ 4) (h0 : v.1 0 = nI c) (hM : PgM p Q v) : pX7_lengthsOn F (nI (68 * p)) v = some (nI (sm (fun i => Q (8 + i)) (2 * c)), v) := by
  unfold pX7_lengthsOn
  refine lq2_up (n := 2 * c) (I := fun i x w => x = nI (sm (fun i => Q (8 + i)) i) ∧ w = v) (Q := fun o => o = some (nI (sm (fun i => Q (8 + i)) (2 * c)), v)) ?_ ?_ (2 * c) 0 F 0 v (by omega) (by omega) ⟨rfl, rfl⟩
  · rintro s x w ⟨rfl, rfl⟩
    unfold bX7_lengthsOn_4
    rw [h0, L2, pk_mul, if_pos (yle (Nat.le_refl _) (by omega))]
  · rintro s i x w hi ⟨rfl, rfl⟩
    refine Or.inr ⟨nI (sm (fun i => Q (8 + i)) (i + 1)), w, ?_, rfl, rfl⟩
    unfold bX7_lengthsOn_4
    rw [h0, L2, pk_mul, if_neg (nle hi (by omega)), L8, nI_add, nI_add, gd_i (by omega) (by omega), cl (by omega), show 68 * p + 8 + i = 68 * p + (8 + i) by omega, hM _ (by omega), nI_add, vl_e, nI_s, sm]
