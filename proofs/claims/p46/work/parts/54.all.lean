section
/-! PURE: tools -/
theorem lq1_up {ρ : Type} {b : (Int32 → St → Option ρ) → Int32 → St → Option ρ} {n : Nat} (I : Nat → St → Prop) (Q : Option ρ → Prop) (stop : ∀ s u, I n u → Q (b s (nI n) u)) (step : ∀ s i u, i < n → I i u → Q (b s (nI i) u) ∨ ∃ u', b s (nI i) u = s (nI (i + 1)) u' ∧ I (i + 1) u') : ∀ (k i F : Nat) (u : St), i + k = n → k < F → I i u → Q (lq1 b F (nI i) u)
  | k, i, 0, u, h1, h2, h3 => by omega
  | 0, i, F + 1, u, h1, h2, h3 => by
    have e : i = n := by omega
    subst e
    rw [lq1_s]
    exact stop _ u h3
  | k + 1, i, F + 1, u, h1, h2, h3 => by
    rw [lq1_s]
    rcases step (lq1 b F) i u (by omega) h3 with q | ⟨u', q1, q2⟩
    · exact q
    · rw [q1]
      exact lq1_up I Q stop step k (i + 1) F u' (by omega) (by omega) q2
theorem lq2_up {A ρ : Type} {b : (A → Int32 → St → Option ρ) → A → Int32 → St → Option ρ} {n : Nat} (I : Nat → A → St → Prop) (Q : Option ρ → Prop) (stop : ∀ s x u, I n x u → Q (b s x (nI n) u)) (step : ∀ s i x u, i < n → I i x u → Q (b s x (nI i) u) ∨ ∃ x' u', b s x (nI i) u = s x' (nI (i + 1)) u' ∧ I (i + 1) x' u') : ∀ (k i F : Nat) (x : A) (u : St), i + k = n → k < F → I i x u → Q (lq2 b F x (nI i) u)
  | k, i, 0, x, u, h1, h2, h3 => by omega
  | 0, i, F + 1, x, u, h1, h2, h3 => by
    have e : i = n := by omega
    subst e
    rw [lq2_s]
    exact stop _ x u h3
  | k + 1, i, F + 1, x, u, h1, h2, h3 => by
    rw [lq2_s]
    rcases step (lq2 b F) i x u (by omega) h3 with q | ⟨x', u', q1, q2⟩
    · exact q
    · rw [q1]
      exact lq2_up I Q stop step k (i + 1) F x' u' (by omega) (by omega) q2
theorem lq3_up {A B ρ : Type} {b : (A → B → Int32 → St → Option ρ) → A → B → Int32 → St → Option ρ} {n : Nat} (I : Nat → A → B → St → Prop) (Q : Option ρ → Prop) (stop : ∀ s x y u, I n x y u → Q (b s x y (nI n) u)) (step : ∀ s i x y u, i < n → I i x y u → Q (b s x y (nI i) u) ∨ ∃ x' y' u', b s x y (nI i) u = s x' y' (nI (i + 1)) u' ∧ I (i + 1) x' y' u') : ∀ (k i F : Nat) (x : A) (y : B) (u : St), i + k = n → k < F → I i x y u → Q (lq3 b F x y (nI i) u)
  | k, i, 0, x, y, u, h1, h2, h3 => by omega
  | 0, i, F + 1, x, y, u, h1, h2, h3 => by
    have e : i = n := by omega
    subst e
    rw [lq3_s]
    exact stop _ x y u h3
  | k + 1, i, F + 1, x, y, u, h1, h2, h3 => by
    rw [lq3_s]
    rcases step (lq3 b F) i x y u (by omega) h3 with q | ⟨x', y', u', q1, q2⟩
    · exact q
    · rw [q1]
      exact lq3_up I Q stop step k (i + 1) F x' y' u' (by omega) (by omega) q2
theorem nI_s (i : Nat) : nI i + 1 = nI (i + 1) := by rw [L1, nI_add]
theorem nle {a b : Nat} (h : b < a) (ha : a < 2147483648) : ¬ nI a ≤ nI b := fun q => absurd ((leI ha (by omega)).mp q) (by omega)
theorem yle {a b : Nat} (h : a ≤ b) (hb : b < 2147483648) : nI a ≤ nI b := (leI (by omega) hb).mpr h
theorem nlt {a b : Nat} (h : b ≤ a) (ha : a < 2147483648) : ¬ nI a < nI b := fun q => absurd ((ltI ha (by omega)).mp q) (by omega)
theorem ylt {a b : Nat} (h : a < b) (hb : b < 2147483648) : nI a < nI b := (ltI (by omega) hb).mpr h
theorem neI {a b : Nat} (h : a ≠ b) (ha : a < 2147483648) (hb : b < 2147483648) : ¬ nI a = nI b := fun q => h ((eqI ha hb).mp q)
/-- bits, counts, sums -/
def bI (q : Nat → Bool) : Nat → Int32
  | 0 => 0
  | n + 1 => if q n = true then bI q n ||| ((1 : Int32) <<< (nI n &&& 31)) else bI q n ||| 0
def bN (q : Nat → Bool) : Nat → Nat
  | 0 => 0
  | n + 1 => bN q n + if q n = true then 2 ^ n else 0
def cn (q : Nat → Bool) : Nat → Nat
  | 0 => 0
  | n + 1 => cn q n + if q n = true then 1 else 0
def sm (f : Nat → Nat) : Nat → Nat
  | 0 => 0
  | n + 1 => sm f n + f n
def pop : Nat → Nat → Nat
  | 0, _ => 0
  | n + 1, k => k % 2 + pop n (k / 2)
theorem pop_0 : ∀ n, pop n 0 = 0
  | 0 => rfl
  | n + 1 => by
    unfold pop
    rw [show 0 / 2 = 0 from rfl, pop_0 n]
theorem bI_c {q q' : Nat → Bool} : ∀ n, (∀ i, i < n → q i = q' i) → bI q n = bI q' n
  | 0, _ => rfl
  | n + 1, h => by
    unfold bI
    rw [h n (by omega), bI_c n (fun i hi => h i (by omega))]
theorem cn_c {q q' : Nat → Bool} : ∀ n, (∀ i, i < n → q i = q' i) → cn q n = cn q' n
  | 0, _ => rfl
  | n + 1, h => by
    unfold cn
    rw [h n (by omega), cn_c n (fun i hi => h i (by omega))]
theorem sm_c {q q' : Nat → Nat} : ∀ n, (∀ i, i < n → q i = q' i) → sm q n = sm q' n
  | 0, _ => rfl
  | n + 1, h => by
    unfold sm
    rw [h n (by omega), sm_c n (fun i hi => h i (by omega))]
theorem cn_le (q : Nat → Bool) : ∀ n, cn q n ≤ n
  | 0 => Nat.le_refl _
  | n + 1 => by
    have := cn_le q n
    unfold cn
    split <;> omega
theorem cn_sm {f : Nat → Nat} : ∀ n, (∀ i, i < n → f i ≤ 1) → cn (fun i => decide (f i = 1)) n = sm f n
  | 0, _ => rfl
  | n + 1, h => by
    have h1 := h n (by omega)
    unfold cn sm
    rw [cn_sm n (fun i hi => h i (by omega))]
    by_cases c : f n = 1
    · rw [if_pos (decide_eq_true c), c]
    · rw [if_neg (by simp [c]), show f n = 0 by omega]
theorem bI_k (q : Nat → Bool) : ∀ n, n ≤ 4 → bI q n = nI (bN q n) ∧ bN q n < 16 ∧ pop 4 (bN q n) = cn q n
  | 0, _ => by
    show (0 : Int32) = nI 0 ∧ 0 < 16 ∧ pop 4 0 = 0
    decide +kernel
  | 1, _ => by
    simp only [bI, bN, cn]
    cases q 0 <;> decide +kernel
  | 2, _ => by
    simp only [bI, bN, cn]
    cases q 0 <;> cases q 1 <;> decide +kernel
  | 3, _ => by
    simp only [bI, bN, cn]
    cases q 0 <;> cases q 1 <;> cases q 2 <;> decide +kernel
  | 4, _ => by
    simp only [bI, bN, cn]
    cases q 0 <;> cases q 1 <;> cases q 2 <;> cases q 3 <;> decide +kernel
  | n + 5, h => by omega
/-- the machine's own counting of bits -/
def bcE (p1 : Int32) : Int32 :=
  let v1 := p1 - ((ushr p1 1) &&& 1431655765)
  let v2 := (v1 &&& 858993459) + ((ushr v1 2) &&& 858993459)
  let v3 := (v2 + (ushr v2 4)) &&& 252645135
  let v4 := v3 + (ushr v3 8)
  let v5 := v4 + (ushr v4 16)
  v5 &&& 63
theorem bcE_e (F : Nat) (x : Int32) (u : St) : pJ6_bitCount_0f7a4 F x u = some (bcE x, u) := rfl
theorem bcE_n : ∀ k, k < 16 → bcE (nI k) = nI (pop 4 k) := by decide +kernel
theorem X_pop (F : Nat) (q : Nat → Bool) {n : Nat} (hn : n ≤ 4) (u : St) : pJ6_bitCount_0f7a4 F (bI q n) u = some (nI (cn q n), u) := by
  obtain ⟨h1, h2, h3⟩ := bI_k q n hn
  rw [bcE_e, h1, bcE_n _ h2, h3]
theorem m_and1 : ∀ k, k < 16 → (nI k &&& 1) = nI (k % 2) ∧ (nI k >>> ((1 : Int32) &&& 31)) = nI (k / 2) := by decide +kernel
theorem M_popL (G : Nat) : ∀ (n k a F : Nat) (v : St), k < 2 ^ n → k < 16 → n < F → lq2 (bX7_bitsOf_4 G) F (nI a) (nI k) v = some (nI (a + pop n k), v)
  | n, k, a, 0, v, h1, h2, h4 => by omega
  | 0, k, a, F + 1, v, h1, h2, h4 => by
    have e : k = 0 := by simp at h1; exact h1
    subst e
    rw [lq2_s]
    unfold bX7_bitsOf_4
    rw [if_pos (show nI 0 ≤ (0 : Int32) from by decide), pop]
    rfl
  | n + 1, k, a, F + 1, v, h1, h2, h4 => by
    rw [lq2_s]
    by_cases c : k = 0
    · subst c
      unfold bX7_bitsOf_4
      rw [if_pos (show nI 0 ≤ (0 : Int32) from by decide), pop_0]
      rfl
    · have e := M_popL G n (k / 2) (a + k % 2) F v (by rw [Nat.pow_succ] at h1; omega) (by omega) (by omega)
      generalize lq2 (bX7_bitsOf_4 G) F = self at e ⊢
      unfold bX7_bitsOf_4
      obtain ⟨m1, m2⟩ := m_and1 k h2
      rw [if_neg (show ¬ nI k ≤ 0 from by rw [L0]; exact nle (by omega) (by omega)), m1, m2]
      simp only [vl_e, nI_add]
      rw [e, pop, Nat.add_assoc]
theorem M_pop (F : Nat) (hF : 80 ≤ F) (q : Nat → Bool) {n : Nat} (hn : n ≤ 4) (v : St) : pX7_bitsOf F (bI q n) v = some (nI (cn q n), v) := by
  obtain ⟨h1, h2, h3⟩ := bI_k q n hn
  unfold pX7_bitsOf
  have e := M_popL F 4 (bN q n) 0 F v (by omega) h2 (by omega)
  rw [h1, L0, e, Nat.zero_add, h3]
/-- the class's bits of a row -/
theorem X_bits (F : Nat) (hF : 80 ≤ F) (u : St) {arr n val : Nat} (f : Nat → Nat) (hn : n ≤ lenX arr) (hn9 : n ≤ 9) (hl : lenX arr < 1000) (hv : val < 1000) (hf : ∀ i, i < n → f i < 1000 ∧ u.2 arr i = nI (f i)) : pX6_bitsOf F arr (nI n) (nI val) u = some (bI (fun i => decide (f i = val)) n, u) := by
  unfold pX6_bitsOf
  refine lq2_up (n := n) (I := fun i x w => x = bI (fun i => decide (f i = val)) i ∧ w = u) (Q := fun o => o = some (bI (fun i => decide (f i = val)) n, u)) ?_ ?_ n 0 F 0 u (by omega) (by omega) ⟨rfl, rfl⟩
  · rintro s x w ⟨rfl, rfl⟩
    unfold bX6_bitsOf_5
    rw [if_pos (yle (Nat.le_refl _) (by omega))]
  · rintro s i x w hi ⟨rfl, rfl⟩
    obtain ⟨f1, f2⟩ := hf i hi
    refine Or.inr ⟨bI (fun i => decide (f i = val)) (i + 1), w, ?_, rfl, rfl⟩
    unfold bX6_bitsOf_5
    rw [if_neg (nle hi (by omega)), if_neg (show ¬ Int32.ofNat (lenX arr) ≤ nI i from nle (by omega) (by omega)), gd_i (by omega) (by omega), cl (by omega), f2]
    simp only [jn_e, vl_e, nI_s]
    rw [bI]
    by_cases c : f i = val
    · rw [c, if_pos rfl, if_pos (decide_eq_true rfl)]
    · rw [if_neg (neI c (by omega) (by omega)), if_neg (by simp [c])]
/-- the reference's bits of a page's verdicts -/
theorem M_won (F : Nat) (hF : 80 ≤ F) (v : St) {p c val : Nat} {Q : Nat → Nat} (hp : p < 6) (hc : c ≤ 4) (h0 : v.1 0 = nI c) (hM : PgM p Q v) (hv : val < 1000) (hq : ∀ i, i < c → Q (24 + i) < 1000) : pX7_wonOn F (nI (68 * p)) (nI val) v = some (bI (fun i => decide (Q (24 + i) = val)) c, v) := by
  unfold pX7_wonOn
  refine lq2_up (n := c) (I := fun i x w => x = bI (fun i => decide (Q (24 + i) = val)) i ∧ w = v) (Q := fun o => o = some (bI (fun i => decide (Q (24 + i) = val)) c, v)) ?_ ?_ c 0 F 0 v (by omega) (by omega) ⟨rfl, rfl⟩
  · rintro s x w ⟨rfl, rfl⟩
    unfold bX7_wonOn_5
    rw [h0, if_pos (yle (Nat.le_refl _) (by omega))]
  · rintro s i x w hi ⟨rfl, rfl⟩
    have f1 := hq i hi
    refine Or.inr ⟨bI (fun i => decide (Q (24 + i) = val)) (i + 1), w, ?_, rfl, rfl⟩
    unfold bX7_wonOn_5
    rw [h0, if_neg (nle hi (by omega)), L24, nI_add, nI_add, gd_i (by omega) (by omega), cl (by omega), show 68 * p + 24 + i = 68 * p + (24 + i) by omega, hM _ (by omega)]
    simp only [jn_e, vl_e, nI_s]
    rw [bI]
    by_cases c : Q (24 + i) = val
    · rw [c, if_pos rfl, if_pos (decide_eq_true rfl)]
    · rw [if_neg (neI c (by omega) (by omega)), if_neg (by simp [c])]
theorem X_sum (F : Nat) (hF : 80 ≤ F) (u : St) {arr c : Nat} (f : Nat → Nat) (hn : 2 * c ≤ lenX arr) (hc : c ≤ 4) (hl : lenX arr < 1000) (h0 : u.1 0 = nI c) (hf : ∀ i, i < 2 * c → u.2 arr i = nI (f i)) : pX0_sumOf F 0 arr u = some (nI (sm f (2 * c)), u) := by
  unfold pX0_sumOf
  refine lq2_up (n := 2 * c) (I := fun i x w => x = nI (sm f i) ∧ w = u) (Q := fun o => o = some (nI (sm f (2 * c)), u)) ?_ ?_ (2 * c) 0 F 0 u (by omega) (by omega) ⟨rfl, rfl⟩
  · rintro s x w ⟨rfl, rfl⟩
    unfold bX0_sumOf_4
    rw [show 4 * 0 + 0 = 0 from rfl, h0, L2, pk_mul, if_pos (yle (Nat.le_refl _) (by omega))]
  · rintro s i x w hi ⟨rfl, rfl⟩
    refine Or.inr ⟨nI (sm f (i + 1)), w, ?_, rfl, rfl⟩
    unfold bX0_sumOf_4
    rw [show 4 * 0 + 0 = 0 from rfl, h0, L2, pk_mul, if_neg (nle hi (by omega)), if_neg (show ¬ Int32.ofNat (lenX arr) ≤ nI i from nle (by omega) (by omega)), gd_i (by omega) (by omega), cl (by omega), hf i hi, nI_add, vl_e, nI_s, sm]
theorem M_lens (F : Nat) (hF : 80 ≤ F) (v : St) {p c : Nat} {Q : Nat → Nat} (hp : p < 6) (hc : c ≤ 4) (h0 : v.1 0 = nI c) (hM : PgM p Q v) : pX7_lengthsOn F (nI (68 * p)) v = some (nI (sm (fun i => Q (8 + i)) (2 * c)), v) := by
  unfold pX7_lengthsOn
  refine lq2_up (n := 2 * c) (I := fun i x w => x = nI (sm (fun i => Q (8 + i)) i) ∧ w = v) (Q := fun o => o = some (nI (sm (fun i => Q (8 + i)) (2 * c)), v)) ?_ ?_ (2 * c) 0 F 0 v (by omega) (by omega) ⟨rfl, rfl⟩
  · rintro s x w ⟨rfl, rfl⟩
    unfold bX7_lengthsOn_4
    rw [h0, L2, pk_mul, if_pos (yle (Nat.le_refl _) (by omega))]
  · rintro s i x w hi ⟨rfl, rfl⟩
    refine Or.inr ⟨nI (sm (fun i => Q (8 + i)) (i + 1)), w, ?_, rfl, rfl⟩
    unfold bX7_lengthsOn_4
    rw [h0, L2, pk_mul, if_neg (nle hi (by omega)), L8, nI_add, nI_add, gd_i (by omega) (by omega), cl (by omega), show 68 * p + 8 + i = 68 * p + (8 + i) by omega, hM _ (by omega), nI_add, vl_e, nI_s, sm]
end
section
/-! PURE: one number of a page changed -/
def RC (c jn : Nat) (P : Nat → Nat) (u v : St) : Prop := RCourt c jn P u v ∧ Rest c jn u v
theorem RC.rr {c jn : Nat} {P : Nat → Nat} {u v : St} (h : RC c jn P u v) : RR u v := ⟨c, jn, P, h.1, h.2⟩
theorem PgOK.put {c jn : Nat} {P : Nat → Nat} {k x : Nat} (h : PgOK c jn P) (hc : c ≤ 4) (hj : jn ≤ 3) (hk : k < 46) (b0 : k < 8 → x ≤ 3) (b1 : 8 ≤ k → k < 16 → x ≤ 99) (b2 : 16 ≤ k → k < 24 → x ≤ 9) (b3 : 24 ≤ k → k < 28 → x ≤ 3) (b4 : 28 ≤ k → k < 32 → x ≤ 1) (b5 : 32 ≤ k → k < 36 → x ≤ 22) (b6 : 36 ≤ k → k < 43 → x ≤ 3) (b7 : 43 ≤ k → 1 ≤ x ∧ x ≤ 9) : PgOK c jn (pu P k x) := by
  obtain ⟨p1, p2, p3, p4, p5, p6, p7⟩ := h
  refine ⟨by rw [pu_n P (by omega)]; exact p1, by rw [pu_n P (by omega)]; exact p2, fun f hf => ?_, fun f hf => ?_, fun f hf => ?_, fun f hf => ?_, fun f hf => ?_⟩
  · have w := p3 f hf
    unfold pu
    refine ⟨?_, ?_, ?_⟩ <;> split <;> omega
  · have w := p4 f hf
    unfold pu
    refine ⟨?_, ?_, ?_, ?_⟩ <;> split <;> omega
  · have w := p5 f hf
    unfold pu
    refine ⟨?_, ?_, ?_⟩ <;> split <;> omega
  · rw [pu_n P (by omega)] at hf
    rw [pu_n P (by omega), pu_n P (by omega)]
    exact p6 f hf
  · rw [pu_n P (by omega)] at hf
    rw [pu_n P (by omega), pu_n P (by omega)]
    exact p7 f hf
theorem cellG {P : Nat → Nat} {u : St} {arr i k x A f kk : Nat} (h : u.2 A f = nI (P kk)) (hi : i < 2147483648) (q : (A = arr ∧ f = i) ↔ kk = k) : (sta u arr (nI i) (nI x)).2 A f = nI (pu P k x kk) := by
  unfold pu
  by_cases c : A = arr
  · subst c
    rw [sta_h _ _ hi]
    by_cases d : f = i
    · rw [if_pos d, if_pos (q.mp ⟨rfl, d⟩)]
    · rw [if_neg d, if_neg (fun z => d (q.mpr z).2)]
      exact h
  · rw [sta_m _ _ _ c, if_neg (fun z => c (q.mpr z).1)]
    exact h
theorem CtX.cell {c jn : Nat} {P : Nat → Nat} {u : St} {arr i k x : Nat} (h : CtX 0 c jn P u) (hc : c ≤ 4) (hj : jn ≤ 3) (hd : P 46 ≤ 4) (hh : P 55 ≤ 6) (hk : (arr ≤ 2 ∧ k = 8 * arr + i ∧ i < 8) ∨ (arr = 3 ∧ k = 24 + i ∧ i < 4) ∨ (arr = 4 ∧ k = 28 + i ∧ i < 4)) : CtX 0 c jn (pu P k x) (sta u arr (nI i) (nI x)) := by
  obtain ⟨h1, h2, h3, h4, h5, h6, h7, h8, h9⟩ := h
  refine ⟨h1, h2, by rw [pu_n P (by omega)]; exact h3, by rw [pu_n P (by omega)]; exact h4, fun f hf => ?_, fun f hf => ?_, fun f hf => ?_, fun f hf => ?_, fun f hf => ?_⟩
  · obtain ⟨w0, w1, w2⟩ := h5 f hf
    exact ⟨cellG w0 (by omega) (by omega), cellG w1 (by omega) (by omega), cellG w2 (by omega) (by omega)⟩
  · obtain ⟨w0, w1, w2, w3⟩ := h6 f hf
    refine ⟨cellG w0 (by omega) (by omega), cellG w1 (by omega) (by omega), ?_, ?_⟩
    · rw [sta_m _ _ _ (by omega), pu_n P (by omega)]; exact w2
    · rw [sta_m _ _ _ (by omega), pu_n P (by omega)]; exact w3
  · obtain ⟨w0, w1⟩ := h7 f hf
    exact ⟨cellG w0 (by omega) (by omega), cellG w1 (by omega) (by omega)⟩
  · rw [pu_n P (by omega)] at hf
    obtain ⟨w0, w1⟩ := h8 f hf
    exact ⟨cellG w0 (by omega) (by omega), cellG w1 (by omega) (by omega)⟩
  · rw [pu_n P (by omega)] at hf
    obtain ⟨w0, w1⟩ := h9 f hf
    exact ⟨cellG w0 (by omega) (by omega), cellG w1 (by omega) (by omega)⟩
theorem RC.cell {c jn : Nat} {P : Nat → Nat} {u v : St} {arr i k x : Nat} (h : RC c jn P u v) (hk : (arr ≤ 2 ∧ k = 8 * arr + i ∧ i < 8) ∨ (arr = 3 ∧ k = 24 + i ∧ i < 4) ∨ (arr = 4 ∧ k = 28 + i ∧ i < 4)) (b0 : k < 8 → x ≤ 3) (b1 : 8 ≤ k → k < 16 → x ≤ 99) (b2 : 16 ≤ k → k < 24 → x ≤ 9) (b3 : 24 ≤ k → k < 28 → x ≤ 3) (b4 : 28 ≤ k → k < 32 → x ≤ 1) : RC c jn (pu P k x) (sta u arr (nI i) (nI x)) (sta v 0 (nI k) (nI x)) := by
  obtain ⟨⟨c1, c2, c3, hX, c5, c6, c7⟩, R⟩ := h
  refine ⟨⟨c1, c2, c3.put c1 c2 (by omega) b0 b1 b2 b3 b4 (by omega) (by omega) (by omega), hX.cell c1 c2 c3.1 c3.2.1 hk, c5, c6, c7.pu (by omega)⟩, ?_⟩
  exact R.fr (fun k hk => rfl) (fun k hk => by rw [sta_m _ _ _ (by omega)]) (fun k hk => rfl) (fun k hk => by rw [sta_m _ _ _ hk]) (fun i hi => by rw [sta_h _ _ (by omega), if_neg (by omega)])
/-! appeal -/
theorem tm2 (a : Nat) : (2 : Int32) * nI a = nI (2 * a) := by rw [L2, pk_mul]
theorem tm3 (a : Nat) : (3 : Int32) * nI a = nI (3 * a) := by rw [L3, pk_mul]
theorem tm4 (a : Nat) : (4 : Int32) * nI a = nI (4 * a) := by rw [L4, pk_mul]
theorem tm8 (a : Nat) : (8 : Int32) * nI a = nI (8 * a) := by rw [L8, pk_mul]
theorem tm10 (a : Nat) : (10 : Int32) * nI a = nI (10 * a) := by rw [L10, pk_mul]
theorem tm40 (a : Nat) : (40 : Int32) * nI a = nI (40 * a) := by rw [L40, pk_mul]
theorem tm68 (a : Nat) : (68 : Int32) * nI a = nI (68 * a) := by rw [L68, pk_mul]
theorem mt40 (a : Nat) : nI a * (40 : Int32) = nI (a * 40) := by rw [L40, pk_mul]
theorem ta2 (a : Nat) : nI a + (2 : Int32) = nI (a + 2) := by rw [L2, nI_add]
theorem at8 (a : Nat) : (8 : Int32) + nI a = nI (8 + a) := by rw [L8, nI_add]
theorem at24 (a : Nat) : (24 : Int32) + nI a = nI (24 + a) := by rw [L24, nI_add]
theorem at28 (a : Nat) : (28 : Int32) + nI a = nI (28 + a) := by rw [L28, nI_add]
theorem at16 (a : Nat) : (16 : Int32) + nI a = nI (16 + a) := by rw [L16, nI_add]
theorem at40 (a : Nat) : (40 : Int32) + nI a = nI (40 + a) := by rw [L40, nI_add]
theorem at43 (a : Nat) : (43 : Int32) + nI a = nI (43 + a) := by rw [L43, nI_add]
theorem at62 (a : Nat) : (62 : Int32) + nI a = nI (62 + a) := by rw [L62, nI_add]
theorem n0f {a : Nat} (h : a ≠ 0) (ha : a < 2147483648) : ¬ nI a = 0 := by
  rw [L0]
  exact neI h ha (by omega)
theorem max_i {l : Nat} (hl : l < 1000) : (if (1 : Int32) < nI l then nI l else 1) = nI (max 1 l) := by
  rw [L1, iflt (by omega) (by omega)]
  by_cases h : 1 < l
  · rw [if_pos h, Nat.max_eq_right (by omega)]
  · rw [if_neg h, Nat.max_eq_left (by omega)]
theorem X_ap (F : Nat) (J : St → Option (Int32 × St)) (self : Int32 → St → Option (Int32 × St)) {a i l : Nat} (u : St) (ha : a < 4) (hi : i < 2 * a + 2) (hl : l < 1000) (h : u.2 1 i = nI l) : bX6_appeal_65 F (nI a) J self (nI i) u = self (nI (i + 1)) (sta u 1 (nI i) (nI (max 1 l))) := by
  unfold bX6_appeal_65
  rw [tm2, ta2, if_neg (nle (by omega) (by omega)), gd_i (by omega) (by omega), gd_i (by omega) (by omega), vl_e, cl (by omega), h, max_i hl, nI_s]
theorem X_apE (F : Nat) (J : St → Option (Int32 × St)) (self : Int32 → St → Option (Int32 × St)) (a : Nat) (u : St) (ha : a < 4) : bX6_appeal_65 F (nI a) J self (nI (2 * a + 1 + 1)) u = J u := by
  unfold bX6_appeal_65
  rw [tm2, ta2, if_pos (yle (by omega) (by omega))]
theorem M_ap (F : Nat) (J : St → Option (Int32 × St)) (self : Int32 → St → Option (Int32 × St)) {a i l : Nat} (u : St) (ha : a < 4) (hi : i < 2 * a + 2) (hl : l < 1000) (h : u.2 0 (8 + i) = nI l) : bX7_appeal_62 F (nI a) J self (nI i) u = self (nI (i + 1)) (sta u 0 (nI (8 + i)) (nI (max 1 l))) := by
  unfold bX7_appeal_62
  rw [tm2, ta2, if_neg (nle (by omega) (by omega)), at8, gd_i (by omega) (by omega), gd_i (by omega) (by omega), cl (by omega), h]
  simp only [jn_e, vl_e, nI_s]
  rw [gd_i (by omega) (by omega), gd_i (by omega) (by omega)]
  by_cases c : l = 0
  · subst c
    rw [if_pos (show nI 0 = 0 from rfl), show nI (0 + 1) = nI (max 1 0) from by decide +kernel]
  · rw [if_neg (n0f c (by omega)), show nI l + 0 = nI (max 1 l) from by rw [L0, nI_add, Nat.max_eq_right (by omega)]; rfl]
theorem M_apE (F : Nat) (J : St → Option (Int32 × St)) (self : Int32 → St → Option (Int32 × St)) (a : Nat) (u : St) (ha : a < 4) : bX7_appeal_62 F (nI a) J self (nI (2 * a + 1 + 1)) u = J u := by
  unfold bX7_appeal_62
  rw [tm2, ta2, if_pos (yle (by omega) (by omega))]
theorem LF3 : LF = 1997 + 1 + 1 + 1 := by decide
theorem step_appeal {u v : St} (h : RR u v) (x0 : Int32) : ∃ (r : Int32) (u' v' : St), pX6_appeal LF x0 u = some (r, u') ∧ pX7_appeal LF x0 v = some (r, v') ∧ RR u' v' := by
  obtain ⟨c, jn, P, ⟨c1, c2, c3, hX, c5, c6, c7⟩, R⟩ := id h
  have hRC : RC c jn P u v := ⟨⟨c1, c2, c3, hX, c5, c6, c7⟩, R⟩
  obtain ⟨y1, -, -, -, y5, y6, -⟩ := id hX
  rcases two_case x0 c1 y1 c5 with ⟨a, a1, rfl, e, e'⟩ | ⟨e, e'⟩
  · obtain ⟨w0, w1, w2, w3⟩ := c3.2.2.2.1 a a1
    obtain ⟨z0, z1, -, -⟩ := y6 a a1
    have z0' : u.2 3 a = nI (P (24 + a)) := z0
    have z1' : u.2 4 a = nI (P (28 + a)) := z1
    by_cases d0 : P (24 + a) = 0
    · refine ⟨-2, u, v, ?_, ?_, h⟩
      · unfold pX6_appeal
        rw [e, bd_s, i10, gd_i (by omega) (by omega), cl (by omega), z0', d0, if_pos (show nI 0 = 0 from rfl)]
      · unfold pX7_appeal
        rw [e', bd_s, i10, at24, gd_i (by omega) (by omega), cl (by omega), c7.g (by omega), d0, if_pos (show nI 0 = 0 from rfl)]
    · by_cases d1 : P (28 + a) = 0
      · obtain ⟨l0, l0e⟩ : ∃ l0, l0 = P (8 + 2 * a) := ⟨_, rfl⟩
        obtain ⟨l1, l1e⟩ : ∃ l1, l1 = P (8 + (2 * a + 1)) := ⟨_, rfl⟩
        have x0' : u.2 1 (2 * a) = nI l0 := l0e ▸ (y5 (2 * a) (by omega)).2.1
        have x1' : u.2 1 (2 * a + 1) = nI l1 := l1e ▸ (y5 (2 * a + 1) (by omega)).2.1
        have m0' : v.2 0 (8 + 2 * a) = nI l0 := l0e ▸ c7.g (by omega)
        have m1' : v.2 0 (8 + (2 * a + 1)) = nI l1 := l1e ▸ c7.g (by omega)
        have b0 : l0 ≤ 99 := l0e ▸ (c3.2.2.1 (2 * a) (by omega)).2.1
        have b1 : l1 ≤ 99 := l1e ▸ (c3.2.2.1 (2 * a + 1) (by omega)).2.1
        have mb0 : max 1 l0 ≤ 99 := by rw [Nat.max_def]; split <;> omega
        have mb1 : max 1 l1 ≤ 99 := by rw [Nat.max_def]; split <;> omega
        have r1 := hRC.cell (arr := 3) (i := a) (k := 24 + a) (x := 0) (by omega) (by omega) (by omega) (by omega) (by omega) (by omega)
        have r2 := r1.cell (arr := 4) (i := a) (k := 28 + a) (x := 1) (by omega) (by omega) (by omega) (by omega) (by omega) (by omega)
        have r3 := r2.cell (arr := 1) (i := 2 * a) (k := 8 + 2 * a) (x := max 1 l0) (by omega) (by omega) (by omega) (by omega) (by omega) (by omega)
        have r4 := r3.cell (arr := 1) (i := 2 * a + 1) (k := 8 + (2 * a + 1)) (x := max 1 l1) (by omega) (by omega) (by omega) (by omega) (by omega) (by omega)
        refine ⟨nI (max 1 l0 + max 1 l1), _, _, ?_, ?_, r4.rr⟩
        · unfold pX6_appeal
          rw [e, bd_s, i10, gd_i (by omega) (by omega), cl (by omega), z0', if_neg (n0f d0 (by omega)), gd_i (by omega) (by omega), z1', d1, if_pos (show nI 0 = 0 from rfl), gd_i (by omega) (by omega), vl_e, gd_i (by omega) (by omega), vl_e, vl_e, jn_e, tm2]
          generalize hq : lq1 (bX6_appeal_65 LF (nI a) (jX6_appeal_102 LF (nI a))) LF = g
          have hg : g = lq1 (bX6_appeal_65 LF (nI a) (jX6_appeal_102 LF (nI a))) (1997 + 1 + 1 + 1) := by rw [← hq]; exact congrArg _ LF3
          rw [hg, lq1_s, X_ap LF _ _ (i := 2 * a) (l := l0) _ (by omega) (by omega) (by omega) (by rw [sta_m _ _ _ (by omega), sta_m _ _ _ (by omega)]; exact x0'), lq1_s, X_ap LF _ _ (i := 2 * a + 1) (l := l1) _ (by omega) (by omega) (by omega) (by rw [sta_h _ _ (by omega), if_neg (by omega), sta_m _ _ _ (by omega), sta_m _ _ _ (by omega)]; exact x1'), lq1_s, X_apE LF _ _ a _ (by omega)]
          unfold jX6_appeal_102
          rw [tm2, nI_s, gd_i (by omega) (by omega), gd_i (by omega) (by omega), cl (by omega), cl (by omega), sta_h _ _ (by omega), if_neg (by omega), sta_h _ _ (by omega), if_pos rfl, sta_h _ _ (by omega), if_pos rfl, nI_add]
          rfl
        · unfold pX7_appeal
          rw [e', bd_s, i10, at24, gd_i (by omega) (by omega), cl (by omega), c7.g (by omega), if_neg (n0f d0 (by omega)), at28, gd_i (by omega) (by omega), cl (by omega), c7.g (by omega), d1, if_neg (show ¬ nI 0 = 1 from by decide), gd_i (by omega) (by omega), vl_e, gd_i (by omega) (by omega), vl_e, vl_e, jn_e, tm2]
          generalize hq : lq1 (bX7_appeal_62 LF (nI a) (jX7_appeal_106 LF (nI a))) LF = g
          have hg : g = lq1 (bX7_appeal_62 LF (nI a) (jX7_appeal_106 LF (nI a))) (1997 + 1 + 1 + 1) := by rw [← hq]; exact congrArg _ LF3
          rw [hg, lq1_s, M_ap LF _ _ (i := 2 * a) (l := l0) _ (by omega) (by omega) (by omega) (by rw [L1, sta_h _ _ (by omega), if_neg (by omega), sta_h _ _ (by omega), if_neg (by omega)]; exact m0'), lq1_s, M_ap LF _ _ (i := 2 * a + 1) (l := l1) _ (by omega) (by omega) (by omega) (by rw [sta_h _ _ (by omega), if_neg (by omega), sta_h _ _ (by omega), if_neg (by omega), sta_h _ _ (by omega), if_neg (by omega)]; exact m1'), lq1_s, M_apE LF _ _ a _ (by omega)]
          unfold jX7_appeal_106
          have hm := r4.1.2.2.2.2.2.2
          have hl := M_len LF (p := 0) (cc := a) _ (by omega) hm (by omega)
          rw [pu_n _ (by omega), pu_s, pu_s] at hl
          exact (congrArg (fun q => bd q (fun r u => some (r, u))) hl).trans rfl
      · refine ⟨-2, u, v, ?_, ?_, h⟩
        · unfold pX6_appeal
          rw [e, bd_s, i10, gd_i (by omega) (by omega), cl (by omega), z0', if_neg (n0f d0 (by omega)), gd_i (by omega) (by omega), z1', if_neg (n0f d1 (by omega))]
        · unfold pX7_appeal
          rw [e', bd_s, i10, at24, gd_i (by omega) (by omega), cl (by omega), c7.g (by omega), if_neg (n0f d0 (by omega)), at28, gd_i (by omega) (by omega), cl (by omega), c7.g (by omega), show P (28 + a) = 1 by omega, if_pos (show nI 1 = 1 from rfl)]
  · refine ⟨-1, u, v, ?_, ?_, h⟩
    · unfold pX6_appeal
      rw [e, bd_s, i00]
    · unfold pX7_appeal
      rw [e', bd_s, i00]
/-! rule -/
theorem step_rule {u v : St} (h : RR u v) (x0 : Int32) : ∃ (r : Int32) (u' v' : St), pX6_rule LF x0 u = some (r, u') ∧ pX7_rule LF x0 v = some (r, v') ∧ RR u' v' := by
  obtain ⟨c, jn, P, ⟨c1, c2, c3, hX, c5, c6, c7⟩, R⟩ := id h
  obtain ⟨y1, y2, y3, y4, y5, y6, -⟩ := id hX
  have hLF : 80 ≤ LF := by decide
  have y1' : u.1 0 = nI c := y1
  have y2' : u.1 1 = nI jn := y2
  have y3' : u.1 2 = nI (P 46) := y3
  have y4' : u.1 3 = nI (P 55) := y4
  have kb : ∀ k, k < 1000 → pX6_bitsOf LF 3 (nI c) (nI k) u = some (bI (fun i => decide (P (24 + i) = k)) c, u) := fun k hk => X_bits LF hLF u (fun i => P (24 + i)) (show c ≤ 4 by omega) (by omega) (show 4 < 1000 by omega) hk (fun i hi => ⟨by have := (c3.2.2.2.1 i hi).1; show P (24 + i) < 1000; omega, (y6 i hi).1⟩)
  have km : ∀ k, k < 1000 → pX7_wonOn LF 0 (nI k) v = some (bI (fun i => decide (P (24 + i) = k)) c, v) := fun k hk => M_won LF hLF v (p := 0) (by omega) c1 c5 c7 hk (fun i hi => by have := (c3.2.2.2.1 i hi).1; omega)
  have ks : pX0_sumOf LF 0 1 u = some (nI (sm (fun i => P (8 + i)) (2 * c)), u) := X_sum LF hLF u (fun i => P (8 + i)) (show 2 * c ≤ 8 by omega) c1 (show 8 < 1000 by omega) y1' (fun i hi => (y5 i hi).2.1)
  have kl : pX7_lengthsOn LF 0 v = some (nI (sm (fun i => P (8 + i)) (2 * c)), v) := M_lens LF hLF v (p := 0) (by omega) c1 c5 c7
  have z46 : v.2 0 46 = nI (P 46) := c7.g (by omega)
  have z55 : v.2 0 55 = nI (P 55) := c7.g (by omega)
  have t46 : Int32.toNatClampNeg 46 = 46 := by decide +kernel
  have t55 : Int32.toNatClampNeg 55 = 55 := by decide +kernel
  have g46 : inb 46 408 = true := by decide +kernel
  have g55 : inb 55 408 = true := by decide +kernel
  unfold pX6_rule pX7_rule
  by_cases q0 : x0 = 0
  · rw [if_pos q0, if_pos q0, y1', c5]; exact ⟨_, _, _, rfl, rfl, h⟩
  by_cases q1 : x0 = 1
  · rw [if_neg q0, if_neg q0, if_pos q1, if_pos q1, y2', c6]; exact ⟨_, _, _, rfl, rfl, h⟩
  by_cases q2 : x0 = 2
  · rw [if_neg q0, if_neg q0, if_neg q1, if_neg q1, if_pos q2, if_pos q2, y3', g46, gd_true, t46, z46]; exact ⟨_, _, _, rfl, rfl, h⟩
  by_cases q3 : x0 = 3
  · rw [if_neg q0, if_neg q0, if_neg q1, if_neg q1, if_neg q2, if_neg q2, if_pos q3, if_pos q3, y4', g55, gd_true, t55, z55]; exact ⟨_, _, _, rfl, rfl, h⟩
  rw [if_neg q0, if_neg q0, if_neg q1, if_neg q1, if_neg q2, if_neg q2, if_neg q3, if_neg q3]
  by_cases q4 : x0 = 4
  · rw [if_pos q4, if_pos q4, y1', show (1 : Int32) = nI 1 from rfl, kb 1 (by omega), bd_s, q4, show (4 : Int32) - 3 = nI 1 from by decide +kernel, km 1 (by omega), bd_s]; exact ⟨_, _, _, rfl, rfl, h⟩
  by_cases q5 : x0 = 5
  · rw [if_neg q4, if_neg q4, if_pos q5, if_pos q5, y1', show (2 : Int32) = nI 2 from rfl, kb 2 (by omega), bd_s, q5, show (5 : Int32) - 3 = nI 2 from by decide +kernel, km 2 (by omega), bd_s]; exact ⟨_, _, _, rfl, rfl, h⟩
  by_cases q6 : x0 = 6
  · rw [if_neg q4, if_neg q4, if_neg q5, if_neg q5, if_pos q6, if_pos q6, y1', q6, show (6 : Int32) - 3 = nI 3 from by decide +kernel, show (3 : Int32) = nI 3 from rfl, kb 3 (by omega), bd_s, km 3 (by omega), bd_s]; exact ⟨_, _, _, rfl, rfl, h⟩
  by_cases q7 : x0 = 7
  · rw [if_neg q4, if_neg q4, if_neg q5, if_neg q5, if_neg q6, if_neg q6, if_pos q7, if_pos q7, ks, bd_s, kl, bd_s]; exact ⟨_, _, _, rfl, rfl, h⟩
  rw [if_neg q4, if_neg q4, if_neg q5, if_neg q5, if_neg q6, if_neg q6, if_neg q7, if_neg q7]
  exact ⟨_, _, _, rfl, rfl, h⟩
end
section
/-! PURE: hear -/
theorem b02 : inb 0 2 = true := by decide +kernel
theorem b12 : inb 1 2 = true := by decide +kernel
theorem tc0 : Int32.toNatClampNeg 0 = 0 := by decide +kernel
theorem tc1 : Int32.toNatClampNeg 1 = 1 := by decide +kernel
theorem X_good0 (F : Nat) {a r m l0 l1 : Nat} {x2 : Int32} (w u : St) (ha : a < 4) (g1 : pX6_verdictNow F (nI a) x2 u = some (nI r, w)) (g2 : w.2 56 0 = nI l0) (g3 : w.2 56 1 = nI l1) (g4 : w.1 26 = nI m) : pX6_hearForGood F (nI a) x2 u = some (nI r, sta (sta (sta (sta (sta w 1 (nI (2 * a)) (nI l0)) 1 (nI (2 * a + 1)) (nI l1)) 3 (nI a) (nI r)) 5 (nI a) (nI m)) 6 (nI a) x2) := by
  unfold pX6_hearForGood
  rw [g1, bd_s, b02, gd_true, tm2, gd_i (by omega) (by omega), vl_e, tc0, g2, b12, gd_true, nI_s, gd_i (by omega) (by omega), vl_e, tc1, sta_m _ _ _ (show 56 ≠ 1 by omega), g3, gd_i (by omega) (by omega), vl_e, gd_i (by omega) (by omega), vl_e, sta_1, sta_1, sta_1, g4, gd_i (by omega) (by omega), vl_e]
theorem X_good (F : Nat) (hF : 30 ≤ F) {c jn a b : Nat} {P : Nat → Nat} (u : St) (hc4 : c ≤ 4) (hj3 : jn ≤ 3) (hPg : PgOK c jn P) (hX : CtX 0 c jn P u) (ha : a < c) (hb : b < jn) :
    ∃ u', pX6_hearForGood F (nI a) (nI b) u = some (nI (hP P (stg P 0 (P 46)) a b).1, u') ∧ CtX 0 c jn (pgH P a b (hP P (stg P 0 (P 46)) a b).1 (hP P (stg P 0 (P 46)) a b).2.1 (hP P (stg P 0 (P 46)) a b).2.2.1 (hP P (stg P 0 (P 46)) a b).2.2.2) u' ∧ (∀ k, (k < 24 ∨ 26 < k) → u'.1 k = u.1 k) ∧ (∀ k, 13 ≤ k → (k < 55 ∨ 58 < k) → u'.2 k = u.2 k) := by
  obtain ⟨w, g1, g2, g3, g4, g5⟩ := X_now F hF u hc4 hj3 hPg hX ha hb
  obtain ⟨y1, y2, y3, y4, y5, y6, y7, y8, y9⟩ := hX.eq (by omega) g5.x
  have p1 := hPg.1
  have p2 := hPg.2.1
  generalize hP P (stg P 0 (P 46)) a b = H at *
  obtain ⟨u', hu⟩ : ∃ u', u' = sta (sta (sta (sta (sta w 1 (nI (2 * a)) (nI H.2.2.1)) 1 (nI (2 * a + 1)) (nI H.2.2.2)) 3 (nI a) (nI H.1)) 5 (nI a) (nI H.2.1)) 6 (nI a) (nI b) := ⟨_, rfl⟩
  have u1 : u'.1 = w.1 := by rw [hu]; simp only [sta_1]
  have uo : ∀ k, k ≠ 1 → k ≠ 3 → k ≠ 5 → k ≠ 6 → u'.2 k = w.2 k := fun k h1 h2 h3 h4 => by
    rw [hu, sta_m _ _ _ h4, sta_m _ _ _ h3, sta_m _ _ _ h2, sta_m _ _ _ h1, sta_m _ _ _ h1]
  have ua1 : ∀ f, u'.2 1 f = if f = 2 * a + 1 then nI H.2.2.2 else if f = 2 * a then nI H.2.2.1 else w.2 1 f := fun f => by
    rw [hu, sta_m _ _ _ (by omega), sta_m _ _ _ (by omega), sta_m _ _ _ (by omega), sta_h _ _ (by omega), sta_h _ _ (by omega)]
  have ua3 : ∀ f, u'.2 3 f = if f = a then nI H.1 else w.2 3 f := fun f => by
    rw [hu, sta_m _ _ _ (by omega), sta_m _ _ _ (by omega), sta_h _ _ (by omega), sta_m _ _ _ (by omega), sta_m _ _ _ (by omega)]
  have ua5 : ∀ f, u'.2 5 f = if f = a then nI H.2.1 else w.2 5 f := fun f => by
    rw [hu, sta_m _ _ _ (by omega), sta_h _ _ (by omega), sta_m _ _ _ (by omega), sta_m _ _ _ (by omega), sta_m _ _ _ (by omega)]
  have ua6 : ∀ f, u'.2 6 f = if f = a then nI b else w.2 6 f := fun f => by
    rw [hu, sta_h _ _ (by omega), sta_m _ _ _ (by omega), sta_m _ _ _ (by omega), sta_m _ _ _ (by omega), sta_m _ _ _ (by omega)]
  refine ⟨u', ?_, ⟨by rw [u1]; exact y1, by rw [u1]; exact y2, by rw [u1, pgH_o P (by omega) (by omega) (by omega) (by omega) (by omega)]; exact y3, by rw [u1, pgH_o P (by omega) (by omega) (by omega) (by omega) (by omega)]; exact y4, fun f hf => ?_, fun f hf => ?_, fun f hf => ?_, fun f hf => ?_, fun f hf => ?_⟩, fun k hk => by rw [u1, g5.1 k hk], fun k h1 h2 => by rw [uo k (by omega) (by omega) (by omega) (by omega), g5.2 k h2]⟩
  · rw [hu]
    exact X_good0 F w u (by omega) g1 g2 g3 g4
  · obtain ⟨w0, w1, w2⟩ := y5 f hf
    rw [pgH_o P (j := f) (by omega) (by omega) (by omega) (by omega) (by omega), pgH_o P (j := 16 + f) (by omega) (by omega) (by omega) (by omega) (by omega)]
    refine ⟨by rw [uo _ (by omega) (by omega) (by omega) (by omega)]; exact w0, ?_, by rw [uo _ (by omega) (by omega) (by omega) (by omega)]; exact w2⟩
    show u'.2 1 f = _
    rw [ua1]
    unfold pgH lw
    rw [if_neg (show 8 + f ≠ 24 + a by omega), if_neg (show 8 + f ≠ 32 + a by omega), if_neg (show 8 + f ≠ 36 + a by omega)]
    by_cases q1 : f = 2 * a + 1
    · rw [if_pos q1, if_neg (by omega), if_pos (by omega)]
    · rw [if_neg q1]
      by_cases q2 : f = 2 * a
      · rw [if_pos q2, if_pos (by omega)]
      · rw [if_neg q2, if_neg (by omega), if_neg (by omega)]; exact w1
  · obtain ⟨w0, w1, w2, w3⟩ := y6 f hf
    rw [pgH_o P (j := 28 + f) (by omega) (by omega) (by omega) (by omega) (by omega)]
    refine ⟨?_, by rw [uo _ (by omega) (by omega) (by omega) (by omega)]; exact w1, ?_, ?_⟩
    · show u'.2 3 f = _
      rw [ua3]
      by_cases q : f = a
      · unfold pgH; rw [if_pos q, if_pos (by omega)]
      · rw [if_neg q, pgH_o P (by omega) (by omega) (by omega) (by omega) (by omega)]; exact w0
    · show u'.2 5 f = _
      rw [ua5]
      by_cases q : f = a
      · unfold pgH; rw [if_pos q, if_neg (by omega), if_pos (by omega), off_s]
      · rw [if_neg q, pgH_o P (by omega) (by omega) (by omega) (by omega) (by omega)]; exact w2
    · show u'.2 6 f = _
      rw [ua6]
      by_cases q : f = a
      · unfold pgH; rw [if_pos q, if_neg (by omega), if_neg (by omega), if_pos (by omega), off_s]
      · rw [if_neg q, pgH_o P (by omega) (by omega) (by omega) (by omega) (by omega)]; exact w3
  · rw [pgH_o P (by omega) (by omega) (by omega) (by omega) (by omega), pgH_o P (by omega) (by omega) (by omega) (by omega) (by omega), uo _ (by omega) (by omega) (by omega) (by omega), uo _ (by omega) (by omega) (by omega) (by omega)]; exact y7 f hf
  · rw [pgH_o P (by omega) (by omega) (by omega) (by omega) (by omega)] at hf
    rw [pgH_o P (by omega) (by omega) (by omega) (by omega) (by omega), pgH_o P (by omega) (by omega) (by omega) (by omega) (by omega), uo _ (by omega) (by omega) (by omega) (by omega), uo _ (by omega) (by omega) (by omega) (by omega)]; exact y8 f hf
  · rw [pgH_o P (by omega) (by omega) (by omega) (by omega) (by omega)] at hf
    rw [pgH_o P (by omega) (by omega) (by omega) (by omega) (by omega), pgH_o P (by omega) (by omega) (by omega) (by omega) (by omega), uo _ (by omega) (by omega) (by omega) (by omega), uo _ (by omega) (by omega) (by omega) (by omega)]; exact y9 f hf
theorem step_hear {u v : St} (h : RR u v) (x0 x1 : Int32) : ∃ (r : Int32) (u' v' : St), pX6_hear LF x0 x1 u = some (r, u') ∧ pX7_hear LF x0 x1 v = some (r, v') ∧ RR u' v' := by
  obtain ⟨c, jn, P, ⟨c1, c2, c3, hX, c5, c6, c7⟩, R⟩ := id h
  obtain ⟨y1, y2, -, -, -, y6, -⟩ := id hX
  have R' : Rest c jn u v := R
  unfold pX6_hear pX7_hear pX7_hears pX7_isHeard
  rcases two_case x0 c1 y1 c5 with ⟨a, a1, rfl, e, e'⟩ | ⟨e, e'⟩
  · rcases two_judge x1 c2 y2 c6 with ⟨b, b1, rfl, k, k'⟩ | ⟨k, k'⟩
    · have z0 : u.2 3 a = nI (P (24 + a)) := (y6 a a1).1
      have hv := (c3.2.2.2.1 a a1).1
      simp only [e, e', k, k', bd_s, i10]
      simp (disch := omega) only [L24, nI_add, gd_i, cl, z0, c7.g]
      rw [L0]
      simp (disch := omega) only [ifeq]
      by_cases w : P (24 + a) = 0
      · simp only [w, if_true]
        obtain ⟨u', g1, g2, g3, g4⟩ := X_good LF (by decide) u c1 c2 c3 hX a1 b1
        obtain ⟨v', k1, k2, k3, k4, k5⟩ := M_judges LF (by decide) (p := 0) v (by omega) c1 c2 c3 c7 (menv0 R'.2.2.2.2.2.2.2) a1 b1
        rw [stm_0] at k1 k2
        obtain ⟨q1, q2, q3, q4, q5⟩ := hP_bd c3 (stg P 0 (P 46)) a1 b1
        rw [show nI (68 * 0) = nI 0 from rfl] at k1
        rw [g1, k1]
        simp only [bd_s]
        exact ⟨_, _, _, rfl, rfl, c, jn, _, ⟨c1, c2, pgH_ok c3 c1 c2 a1 b1 q2 (by omega) q4 q5, g2, by rw [k3 0 (by omega)]; exact c5, by rw [k3 1 (by omega)]; exact c6, k2⟩, R'.frw (fun k h1 h2 => g3 k (by omega)) (fun k h1 h2 => g4 k h1 (by omega)) (fun k hk => k3 k (by omega)) (fun k hk => k4 k (by omega)) (fun i h1 h2 => k5 i (by omega))⟩
      · simp only [w, if_false, bd_s]
        exact ⟨_, _, _, rfl, rfl, h⟩
    · simp only [e, e', k, k', bd_s, i10, i00]
      exact ⟨_, _, _, rfl, rfl, h⟩
  · simp only [e, e', bd_s, i00]
    exact ⟨_, _, _, rfl, rfl, h⟩
end
section
/-! PURE: count -/
theorem FK.tr {a b x y : Int32} (h : FK x y) (e : a = x) (f : b = y) : FK a b := by
  rw [e, f]
  exact h
theorem M_countL (F : Nat) (hF : 80 ≤ F) (J : Int32 → Int32 → St → Option (Int32 × St)) (v : St) {c : Nat} {P : Nat → Nat} (hc : c ≤ 4) (h0 : v.1 0 = nI c) (hM : PgM 0 P v) : lq3 (bX7_count_7 F J) F 0 0 0 v = J (nI (sm (fun i => P (16 + i)) (2 * c))) (nI (sm (fun i => P (28 + i)) c)) v := by
  refine lq3_up (n := c) (I := fun i x y w => x = nI (sm (fun i => P (16 + i)) (2 * i)) ∧ y = nI (sm (fun i => P (28 + i)) i) ∧ w = v) (Q := fun o => o = J (nI (sm (fun i => P (16 + i)) (2 * c))) (nI (sm (fun i => P (28 + i)) c)) v) ?_ ?_ c 0 F 0 0 v (by omega) (by omega) ⟨rfl, rfl, rfl⟩
  · rintro s x y w ⟨rfl, rfl, rfl⟩
    unfold bX7_count_7
    rw [h0, if_pos (yle (Nat.le_refl _) (by omega))]
  · rintro s i x y w hi ⟨rfl, rfl, rfl⟩
    refine Or.inr ⟨nI (sm (fun i => P (16 + i)) (2 * (i + 1))), nI (sm (fun i => P (28 + i)) (i + 1)), w, ?_, rfl, rfl, rfl⟩
    unfold bX7_count_7
    rw [h0, if_neg (nle hi (by omega)), tm2, at16, at28, nI_s, nI_s, gd_i (by omega) (by omega), gd_i (by omega) (by omega), vl_e, gd_i (by omega) (by omega), vl_e, cl (by omega), cl (by omega), cl (by omega), hM.g (by omega), hM.g (by omega), hM.g (by omega), nI_add, nI_add, nI_add, show 2 * (i + 1) = 2 * i + 1 + 1 by omega, sm, sm, sm, show 16 + 2 * i + 1 = 16 + (2 * i + 1) by omega, Nat.add_assoc]
theorem step_count {u v : St} (h : RR u v) (x0 : Int32) : ∃ (r : Int32) (u' v' : St), pX6_count LF x0 u = some (r, u') ∧ pX7_count LF x0 v = some (r, v') ∧ RR u' v' := by
  obtain ⟨c, jn, P, ⟨c1, c2, c3, hX, c5, c6, c7⟩, i0, i1, ⟨n, n1, n2, n3, -⟩, ⟨m, m1, m2, m3, -⟩, hw, htn, hsh, hc⟩ := id h
  obtain ⟨y1, y2, y3, y4, y5, y6, -⟩ := id hX
  have hLF : 80 ≤ LF := by decide
  have y1' : u.1 0 = nI c := y1
  have t0 : Int32.toNatClampNeg 0 = 0 := by decide +kernel
  have t1 : Int32.toNatClampNeg 1 = 1 := by decide +kernel
  have b02 : inb 0 2 = true := by decide +kernel
  have b12 : inb 1 2 = true := by decide +kernel
  have b04 : inb 0 4 = true := by decide +kernel
  have hMc : pX7_count LF x0 v = jX7_count_65 LF x0 (nI (sm (fun i => P (16 + i)) (2 * c))) (nI (sm (fun i => P (28 + i)) c)) v := by
    unfold pX7_count
    rw [jn_e, M_countL LF hLF _ v c1 c5 c7]
  rw [hMc]
  unfold pX6_count jX7_count_65
  by_cases q0 : x0 = 0
  · rw [if_pos q0, if_pos q0, n2, n3]; exact ⟨_, _, _, rfl, rfl, h⟩
  rw [if_neg q0, if_neg q0]
  by_cases q1 : x0 = 1
  · rw [if_pos q1, if_pos q1]
    simp only [jn_e, b02, b12, gd_true, t0, t1]
    rcases i0 with ⟨a, b⟩ | ⟨a, b, -⟩ <;> rcases i1 with ⟨a', b'⟩ | ⟨a', b', -⟩ <;> rw [a, b, a', b'] <;> exact ⟨_, _, _, rfl, rfl, h⟩
  rw [if_neg q1, if_neg q1]
  by_cases q2 : x0 = 2
  · rw [if_pos q2, if_pos q2, m2, m3]; exact ⟨_, _, _, rfl, rfl, h⟩
  rw [if_neg q2, if_neg q2]
  by_cases q3 : x0 = 3
  · rw [if_pos q3, if_pos q3]
    unfold pX4_isNothing
    rw [b04, gd_true, gd_true, t0]
    rcases hsh 0 (by omega) with ⟨a, b⟩ | ⟨ln, k, k1, k2, k3, k4, k5, k6, -⟩
    · rw [a, b, if_pos rfl, if_pos rfl, bd_s, i10]
      exact ⟨_, _, _, rfl, rfl, h⟩
    · rw [k5, if_neg (m4_lt (by omega)).2.1, bd_s, i00, k4, if_neg (m4_lt (by omega)).2.1, gd_true, gd_true, k6, k5]
      exact ⟨_, _, _, rfl, rfl, h⟩
  rw [if_neg q3, if_neg q3]
  by_cases q4 : x0 = 4
  · rw [if_pos q4, if_pos q4, X_sum LF hLF u (arr := 2) (fun i => P (16 + i)) (show 2 * c ≤ 8 by omega) c1 (show 8 < 1000 by omega) y1' (fun i hi => (y5 i hi).2.2), bd_s]
    exact ⟨_, _, _, rfl, rfl, h⟩
  rw [if_neg q4, if_neg q4]
  by_cases q5 : x0 = 5
  · have k := X_bits LF hLF u (arr := 4) (val := 1) (fun i => P (28 + i)) (show c ≤ 4 by omega) (by omega) (show 4 < 1000 by omega) (by omega) (fun i hi => ⟨by have := (c3.2.2.2.1 i hi).2.1; show P (28 + i) < 1000; omega, (y6 i hi).2.1⟩)
    rw [if_pos q5, if_pos q5, y1', show (1 : Int32) = nI 1 from rfl, k, bd_s, X_pop LF _ c1, bd_s, cn_sm c (fun i hi => (c3.2.2.2.1 i hi).2.1)]
    exact ⟨_, _, _, rfl, rfl, h⟩
  rw [if_neg q5, if_neg q5]
  exact ⟨_, _, _, rfl, rfl, h⟩
/-! frames, one by one -/
theorem RSeen.fr {c jn : Nat} {u v u' v' : St} (h : RSeen c jn u v) (e1 : u'.1 29 = u.1 29) (e2 : u'.2 60 = u.2 60) (e3 : u'.2 61 = u.2 61) (e4 : u'.2 62 = u.2 62) (f1 : v'.1 21 = v.1 21) (f2 : v'.2 7 = v.2 7) : RSeen c jn u' v' := by
  obtain ⟨n, a1, a2, a3, a4⟩ := h
  refine ⟨n, a1, e1.trans a2, f1.trans a3, fun i hi => ?_⟩
  rw [e2, e3, e4, f2]
  exact a4 i hi
theorem RTape.fr {u v u' v' : St} (h : RTape u v) (e1 : u'.1 17 = u.1 17) (e2 : u'.2 54 = u.2 54) (f1 : v'.1 7 = v.1 7) (f2 : v'.2 3 = v.2 3) : RTape u' v' := by
  obtain ⟨n, a1, a2, a3, a4⟩ := h
  refine ⟨n, a1, e1.trans a2, f1.trans a3, fun i hi => ?_⟩
  rw [e2, f2]
  exact a4 i hi
theorem RSheet.fr {k : Nat} {u v u' v' : St} (h : RSheet k u v) (e1 : u'.2 63 = u.2 63) (e2 : u'.2 64 = u.2 64) (e3 : u'.2 65 = u.2 65) (f1 : v'.2 9 = v.2 9) (f2 : v'.2 10 = v.2 10) (f3 : v'.2 11 = v.2 11) : RSheet k u' v' := by
  unfold RSheet at h ⊢
  rw [e1, e2, e3, f1, f2, f3]
  exact h
theorem RConst.fr {v v' : St} (h : RConst v) (e1 : v'.1 15 = v.1 15) (e2 : v'.1 17 = v.1 17) (e3 : v'.2 1 = v.2 1) (e4 : v'.2 4 = v.2 4) (e5 : v'.2 5 = v.2 5) : RConst v' := by
  obtain ⟨a1, a2, a3, a4, a5⟩ := h
  exact ⟨e1.trans a1, e2.trans a2, e3.trans a3, e4.trans a4, e5.trans a5⟩
theorem CtX.frj {j c jn : Nat} {P : Nat → Nat} {u u' : St} (h : CtX j c jn P u) (e1 : ∀ i, i < 4 → u'.1 (4 * j + i) = u.1 (4 * j + i)) (e2 : ∀ i, i < 13 → u'.2 (13 * j + i) = u.2 (13 * j + i)) : CtX j c jn P u' := by
  obtain ⟨h1, h2, h3, h4, h5, h6, h7, h8, h9⟩ := h
  refine ⟨by rw [e1 0 (by omega)]; exact h1, by rw [e1 1 (by omega)]; exact h2, by rw [e1 2 (by omega)]; exact h3, by rw [e1 3 (by omega)]; exact h4, ?_, ?_, ?_, ?_, ?_⟩
  · intro f hf; rw [e2 0 (by omega), e2 1 (by omega), e2 2 (by omega)]; exact h5 f hf
  · intro f hf; rw [e2 3 (by omega), e2 4 (by omega), e2 5 (by omega), e2 6 (by omega)]; exact h6 f hf
  · intro f hf; rw [e2 7 (by omega), e2 8 (by omega)]; exact h7 f hf
  · intro f hf; rw [e2 9 (by omega), e2 10 (by omega)]; exact h8 f hf
  · intro f hf; rw [e2 11 (by omega), e2 12 (by omega)]; exact h9 f hf
/-! a court that becomes another -/
def ln13 (i : Nat) : Nat := ([8, 8, 8, 4, 4, 4, 4, 3, 3, 4, 4, 6, 6] : List Nat).getD i 0
theorem ln13_e : ∀ j, j < 4 → ∀ i, i < 13 → lenX (13 * j + i) = ln13 i := by decide +kernel
theorem ln13_b : ∀ i, i < 13 → 1 ≤ ln13 i ∧ ln13 i ≤ 8 := by decide +kernel
theorem X_row (F : Nat) {a b n : Nat} (u : St) (ha : lenX a = n) (hb : lenX b = n) (hn : n < 1000) : ∃ u', pX6_copyRow F a b u = some ((), u') ∧ u'.1 = u.1 ∧ (∀ k, k ≠ b → u'.2 k = u.2 k) ∧ ∀ i, i < n → u'.2 b i = u.2 a i := by
  refine ⟨stw u b (va_cpy (u.2 a) (u.2 b) 0 0 n), ?_, rfl, fun k hk => by rw [stw_2, if_neg hk], fun i hi => ?_⟩
  · unfold pX6_copyRow
    rw [ha, hb, if_neg (show ¬ Int32.ofNat n < Int32.ofNat n from nlt (a := n) (b := n) (Nat.le_refl _) (by omega))]
    have e : Int32.toNatClampNeg (Int32.ofNat n) = n := cl (n := n) (by omega)
    have e0 : Int32.toNatClampNeg 0 = 0 := by decide +kernel
    have g : cpk 0 0 (Int32.ofNat n) n n = true := by
      unfold cpk
      rw [e, e0]
      have h1 : ¬ (Int32.ofNat n) < 0 := by
        show ¬ nI n < 0
        rw [L0]
        exact nlt (by omega) (by omega)
      have h2 : ¬ ((0 : Int32) < 0) := by decide
      simp [h1, h2]
    rw [g, gd_true, vl_e, e, e0]
  · rw [stw_2, if_pos rfl]
    unfold va_cpy
    rw [if_pos ⟨by omega, by omega⟩, Nat.zero_add, Nat.sub_zero]
/-- the rows that are copied, one behind another -/
def rowsC (F p j : Nat) : Nat → Nat → St → Option (Unit × St)
  | 0, _, u => some ((), u)
  | n + 1, i, u => bd (pX6_copyRow F (13 * p + i) (13 * j + i) u) (fun (_ : Unit) (u5 : St) => rowsC F p j n (i + 1) u5)
theorem X_rowsC (F : Nat) {p j : Nat} (hp : p < 4) (hj : j < 4) (hpj : p ≠ j) : ∀ (n i : Nat) (u : St), n + i = 13 → ∃ u', rowsC F p j n i u = some ((), u') ∧ u'.1 = u.1 ∧ (∀ k, (k < 13 * j + i ∨ 13 * j + 13 ≤ k) → u'.2 k = u.2 k) ∧ ∀ k, i ≤ k → k < 13 → ∀ f, f < ln13 k → u'.2 (13 * j + k) f = u.2 (13 * p + k) f
  | 0, i, u, h => ⟨u, rfl, rfl, fun k hk => rfl, fun k h1 h2 => by omega⟩
  | n + 1, i, u, h => by
    have hb := ln13_b i (by omega)
    obtain ⟨w, g1, g2, g3, g4⟩ := X_row F u (ln13_e p hp i (by omega)) (ln13_e j hj i (by omega)) (by omega)
    obtain ⟨u', k1, k2, k3, k4⟩ := X_rowsC F hp hj hpj n (i + 1) w (by omega)
    refine ⟨u', ?_, k2.trans g2, fun k hk => by rw [k3 k (by omega), g3 k (by omega)], fun k h1 h2 f hf => ?_⟩
    · rw [rowsC, g1, bd_s, k1]
    · by_cases q : k = i
      · subst q
        rw [k3 _ (by omega), g4 f hf]
      · rw [k4 k (by omega) h2 f hf, g3 _ (by omega)]
theorem X_becomes (F : Nat) {p j : Nat} (hp : p < 4) (hj : j < 4) (hpj : p ≠ j) (u : St) : ∃ u', pX0_becomes F j p u = some ((), u') ∧ (∀ i, i < 4 → u'.1 (4 * j + i) = u.1 (4 * p + i)) ∧ (∀ k, (k < 4 * j ∨ 4 * j + 4 ≤ k) → u'.1 k = u.1 k) ∧ (∀ k, (k < 13 * j ∨ 13 * j + 13 ≤ k) → u'.2 k = u.2 k) ∧ ∀ k, k < 13 → ∀ f, f < ln13 k → u'.2 (13 * j + k) f = u.2 (13 * p + k) f := by
  obtain ⟨w, hw⟩ : ∃ w, w = stf (stf (stf (stf u (4 * j + 0) (u.1 (4 * p + 0))) (4 * j + 1) (u.1 (4 * p + 1))) (4 * j + 2) (u.1 (4 * p + 2))) (4 * j + 3) (u.1 (4 * p + 3)) := ⟨_, rfl⟩
  obtain ⟨u', k1, k2, k3, k4⟩ := X_rowsC F hp hj hpj 13 0 w (by omega)
  have w2 : w.2 = u.2 := by rw [hw]; rfl
  have w1 : ∀ i, i < 4 → w.1 (4 * j + i) = u.1 (4 * p + i) := fun i hi => by
    have q : i = 0 ∨ i = 1 ∨ i = 2 ∨ i = 3 := by omega
    rw [hw, stf_1, stf_1, stf_1, stf_1]
    rcases q with rfl | rfl | rfl | rfl
    · rw [if_neg (by omega), if_neg (by omega), if_neg (by omega), if_pos rfl]
    · rw [if_neg (by omega), if_neg (by omega), if_pos rfl]
    · rw [if_neg (by omega), if_pos rfl]
    · rw [if_pos rfl]
  refine ⟨u', ?_, fun i hi => by rw [k2, w1 i hi], fun k hk => by rw [k2, hw, stf_1, if_neg (by omega), stf_1, if_neg (by omega), stf_1, if_neg (by omega), stf_1, if_neg (by omega)], fun k hk => by rw [k3 k (by omega), w2], fun k hk f hf => by rw [k4 k (by omega) hk f hf, w2]⟩
  have e : pX0_becomes F j p u = rowsC F p j 13 0 w := by
    unfold pX0_becomes
    rw [vl_e, vl_e, vl_e, vl_e, stf_1, if_neg (by omega), stf_1, if_neg (by omega), stf_1, if_neg (by omega), stf_1, if_neg (by omega), stf_1, if_neg (by omega), stf_1, if_neg (by omega), ← hw]
    rfl
  rw [e, k1]
theorem CtX.becomes {p j c jn : Nat} {P : Nat → Nat} {u u' : St} (h : CtX p c jn P u) (hP : PgOK c jn P) (hc : c ≤ 4) (hj : jn ≤ 3) (e1 : ∀ i, i < 4 → u'.1 (4 * j + i) = u.1 (4 * p + i)) (e2 : ∀ k, k < 13 → ∀ f, f < ln13 k → u'.2 (13 * j + k) f = u.2 (13 * p + k) f) : CtX j c jn P u' := by
  obtain ⟨h1, h2, h3, h4, h5, h6, h7, h8, h9⟩ := h
  have q1 := hP.1
  have q2 := hP.2.1
  have E : ∀ k n, k < 13 → ln13 k = n → ∀ f, f < n → u'.2 (13 * j + k) f = u.2 (13 * p + k) f := fun k n hk hn f hf => e2 k hk f (by omega)
  refine ⟨(e1 0 (by omega)).trans h1, (e1 1 (by omega)).trans h2, (e1 2 (by omega)).trans h3, (e1 3 (by omega)).trans h4, fun f hf => ?_, fun f hf => ?_, fun f hf => ?_, fun f hf => ?_, fun f hf => ?_⟩
  · obtain ⟨w0, w1, w2⟩ := h5 f hf
    exact ⟨(E 0 8 (by omega) rfl f (by omega)).trans w0, (E 1 8 (by omega) rfl f (by omega)).trans w1, (E 2 8 (by omega) rfl f (by omega)).trans w2⟩
  · obtain ⟨w0, w1, w2, w3⟩ := h6 f hf
    exact ⟨(E 3 4 (by omega) rfl f (by omega)).trans w0, (E 4 4 (by omega) rfl f (by omega)).trans w1, (E 5 4 (by omega) rfl f (by omega)).trans w2, (E 6 4 (by omega) rfl f (by omega)).trans w3⟩
  · obtain ⟨w0, w1⟩ := h7 f hf
    exact ⟨(E 7 3 (by omega) rfl f (by omega)).trans w0, (E 8 3 (by omega) rfl f (by omega)).trans w1⟩
  · obtain ⟨w0, w1⟩ := h8 f hf
    exact ⟨(E 9 4 (by omega) rfl f (by omega)).trans w0, (E 10 4 (by omega) rfl f (by omega)).trans w1⟩
  · obtain ⟨w0, w1⟩ := h9 f hf
    exact ⟨(E 11 6 (by omega) rfl f (by omega)).trans w0, (E 12 6 (by omega) rfl f (by omega)).trans w1⟩
/-! keep, back -/
theorem stz_m (u : St) {k j : Nat} (i v : Int32) (h : j ≠ k) : (stz u k i v).2 j = u.2 j := by rw [stz_2, if_neg h]
theorem vb0 : vp_nar .boolean 0 = 0 := by decide +kernel
theorem vb1 : vp_nar .boolean 1 = 1 := by decide +kernel
theorem stz_h (u : St) (k : Nat) {i : Nat} (hi : i < 2147483648) (v : Int32) (j : Nat) : (stz u k (nI i) v).2 k j = if j = i then vp_nar .boolean v else u.2 k j := by
  rw [stz_2, if_pos rfl, cl hi]
  rfl
theorem stz_o (u : St) (k : Nat) {i j : Nat} (hi : i < 2147483648) (hj : j ≠ i) (v : Int32) : (stz u k (nI i) v).2 k j = u.2 k j := by rw [stz_h u k hi, if_neg hj]
theorem image_n (F : Nat) (u : St) {k : Nat} (hk : k < 2) : pX6_imageOf F (nI k) u = some (k + 1, u) := by
  unfold pX6_imageOf
  have q : k = 0 ∨ k = 1 := by omega
  rcases q with rfl | rfl
  · rw [if_pos (show nI 0 = 0 from rfl)]
  · rw [if_neg (show ¬ nI 1 = 0 from by decide)]
theorem RImg.same {k c jn : Nat} {u v u' v' : St} (h : RImg k c jn u v) (hk : k < 2) (e1 : ∀ i, i < 4 → u'.1 (4 * (k + 1) + i) = u.1 (4 * (k + 1) + i)) (e2 : ∀ i, i < 13 → u'.2 (13 * (k + 1) + i) = u.2 (13 * (k + 1) + i)) (e3 : u'.2 66 k = u.2 66 k) (f1 : v'.2 12 k = v.2 12 k) (f2 : ∀ i, i < 68 → v'.2 0 (68 * (k + 1) + i) = v.2 0 (68 * (k + 1) + i)) : RImg k c jn u' v' := by
  rcases h with ⟨a, b⟩ | ⟨a, b, Q, q1, q2, q3⟩
  · exact Or.inl ⟨e3.trans a, f1.trans b⟩
  · exact Or.inr ⟨e3.trans a, f1.trans b, Q, q1, q2.frj e1 e2, fun i hi => (f2 i hi).trans (q3 i hi)⟩
theorem RImg.is {k c jn : Nat} {u v : St} (h : RImg k c jn u v) : (u.2 66 k = nI 0 ∧ v.2 12 k = nI 0) ∨ (u.2 66 k = nI 1 ∧ v.2 12 k = nI 1) := by
  rcases h with ⟨a, b⟩ | ⟨a, b, -⟩
  · exact Or.inl ⟨a, b⟩
  · exact Or.inr ⟨a, b⟩
theorem step_keep {u v : St} (h : RR u v) (x0 : Int32) : ∃ (r : Int32) (u' v' : St), pX6_keep LF x0 u = some (r, u') ∧ pX7_keep LF x0 v = some (r, v') ∧ RR u' v' := by
  obtain ⟨c, jn, P, ⟨c1, c2, c3, hX, c5, c6, c7⟩, i0, i1, hs, ht, hw, htn, hsh, hc⟩ := id h
  have hLF : 80 ≤ LF := by decide
  rcases rng x0 (a0 := 0) (b0 := 1) (a1 := 0) (b1 := 1) 0 1 rfl rfl rfl rfl (by omega) (by omega) with ⟨k, k1, k2, rfl, e, e'⟩ | ⟨-, e, e'⟩
  · have hk : k < 2 := by omega
    have hi : RImg k c jn u v := by
      have q : k = 0 ∨ k = 1 := by omega
      rcases q with rfl | rfl
      · exact i0
      · exact i1
    obtain ⟨w, g1, g2, g3, g4, g5⟩ := X_becomes LF (p := 0) (j := k + 1) (by omega) (by omega) (by omega) u
    obtain ⟨y, m1, m2, m3, m4, m5⟩ := M_copies LF hLF (p := 0) (q := k + 1) (by omega) (by omega) (by omega) v
    have hX' : CtX (k + 1) c jn P w := hX.becomes c3 c1 c2 g2 g5
    have hX0 : CtX 0 c jn P w := hX.frj (fun i hi => by rw [g3 _ (by omega)]) (fun i hi => by rw [g4 _ (by omega)])
    have flag : ∃ b, u.2 66 k = nI b ∧ v.2 12 k = nI b ∧ (b = 0 ∨ b = 1) := by
      rcases hi.is with ⟨a, b⟩ | ⟨a, b⟩
      · exact ⟨0, a, b, Or.inl rfl⟩
      · exact ⟨1, a, b, Or.inr rfl⟩
    obtain ⟨b, fu, fv, hb⟩ := flag
    refine ⟨nI b, stz w 66 (nI k) 1, stz y 12 (nI k) 1, ?_, ?_, ?_⟩
    · unfold pX6_keep
      simp only [e, bd_s, i10, jn_e, image_n LF _ hk, g1, gd_i hk (show 2 < 2147483648 by omega), cl (show k < 2147483648 by omega), fu, vl_e]
      have d : decide (k + 1 < 4) = true := decide_eq_true (by omega)
      rw [d]
      rcases hb with rfl | rfl
      · rw [if_pos (show nI 0 = 0 from rfl), gd_true]; rfl
      · rw [if_neg (show ¬ nI 1 = 0 from by decide), gd_true]; rfl
    · unfold pX7_keep
      have t : (68 : Int32) * (nI k + 1) = nI (68 * (k + 1)) := by rw [nI_s, tm68]
      have m1' : pX7_copies LF 0 (nI (68 * (k + 1))) v = some ((), y) := m1
      simp only [e', bd_s, i10, t, m1', jn_e, gd_i hk (show 2 < 2147483648 by omega), cl (show k < 2147483648 by omega), vl_e, m3 12 (by omega), fv]
      rcases hb with rfl | rfl
      · rw [if_pos (show nI 0 = 0 from rfl)]; rfl
      · rw [if_neg (show ¬ nI 1 = 0 from by decide)]; rfl
    · have oX : ∀ j, j ≠ 66 → (stz w 66 (nI k) 1).2 j = w.2 j := fun j hj => stz_m _ _ _ hj
      have oM : ∀ j, j ≠ 12 → (stz y 12 (nI k) 1).2 j = y.2 j := fun j hj => stz_m _ _ _ hj
      have new : RImg k c jn (stz w 66 (nI k) 1) (stz y 12 (nI k) 1) := by
        refine Or.inr ⟨by rw [stz_h _ _ (by omega), if_pos rfl, vb1], by rw [stz_h _ _ (by omega), if_pos rfl, vb1], P, c3, hX'.frj (fun i hi => rfl) (fun i hi => oX _ (by omega)), fun i hi => ?_⟩
        rw [oM 0 (by omega), m4 i hi]
        exact c7 i hi
      have old : ∀ j, j < 2 → j ≠ k → RImg j c jn u v → RImg j c jn (stz w 66 (nI k) 1) (stz y 12 (nI k) 1) := fun j hj hjk q => by
        refine q.same hj (fun i hi => g3 _ (by omega)) (fun i hi => by rw [oX _ (by omega), g4 _ (by omega)]) ?_ ?_ (fun i hi => ?_)
        · rw [stz_o _ _ (by omega) hjk, g4 66 (by omega)]
        · rw [stz_o _ _ (by omega) hjk, m3 12 (by omega)]
        · rw [oM 0 (by omega), m5 _ (by omega)]
      have im : ∀ j, j < 2 → RImg j c jn u v → RImg j c jn (stz w 66 (nI k) 1) (stz y 12 (nI k) 1) := fun j hj q => by
        by_cases z : j = k
        · rw [z]; exact new
        · exact old j hj z q
      refine ⟨c, jn, P, ⟨c1, c2, c3, hX0.frj (fun i hi => rfl) (fun i hi => oX _ (by omega)), (congrFun m2 0).trans c5, (congrFun m2 1).trans c6, fun i hi => ?_⟩, im 0 (by omega) i0, im 1 (by omega) i1, ?_, ?_, ?_, ?_, ?_, ?_⟩
      · rw [oM 0 (by omega), m5 _ (by omega)]
        exact c7 i hi
      · exact hs.fr (g3 29 (by omega)) (by rw [oX _ (by omega), g4 _ (by omega)]) (by rw [oX _ (by omega), g4 _ (by omega)]) (by rw [oX _ (by omega), g4 _ (by omega)]) (congrFun m2 21) (by rw [oM _ (by omega), m3 _ (by omega)])
      · exact ht.fr (g3 17 (by omega)) (by rw [oX _ (by omega), g4 _ (by omega)]) (congrFun m2 7) (by rw [oM _ (by omega), m3 _ (by omega)])
      · exact hw.tr (g3 18 (by omega)) (congrFun m2 8)
      · exact (g3 16 (by omega)).trans (htn.trans (congrFun m2 22).symm)
      · exact fun i hi => (hsh i hi).fr (by rw [oX _ (by omega), g4 _ (by omega)]) (by rw [oX _ (by omega), g4 _ (by omega)]) (by rw [oX _ (by omega), g4 _ (by omega)]) (by rw [oM _ (by omega), m3 _ (by omega)]) (by rw [oM _ (by omega), m3 _ (by omega)]) (by rw [oM _ (by omega), m3 _ (by omega)])
      · exact hc.fr (congrFun m2 15) (congrFun m2 17) (by rw [oM _ (by omega), m3 _ (by omega)]) (by rw [oM _ (by omega), m3 _ (by omega)]) (by rw [oM _ (by omega), m3 _ (by omega)])
  · refine ⟨-1, u, v, ?_, ?_, h⟩
    · unfold pX6_keep
      rw [e, bd_s, i00]
    · unfold pX7_keep
      rw [e', bd_s, i00]
theorem step_back {u v : St} (h : RR u v) (x0 : Int32) : ∃ (r : Int32) (u' v' : St), pX6_back LF x0 u = some (r, u') ∧ pX7_back LF x0 v = some (r, v') ∧ RR u' v' := by
  obtain ⟨c, jn, P, ⟨c1, c2, c3, hX, c5, c6, c7⟩, i0, i1, hs, ht, hw, htn, hsh, hc⟩ := id h
  have hLF : 80 ≤ LF := by decide
  rcases rng x0 (a0 := 0) (b0 := 1) (a1 := 0) (b1 := 1) 0 1 rfl rfl rfl rfl (by omega) (by omega) with ⟨k, k1, k2, rfl, e, e'⟩ | ⟨-, e, e'⟩
  · have hk : k < 2 := by omega
    have hi : RImg k c jn u v := by
      have q : k = 0 ∨ k = 1 := by omega
      rcases q with rfl | rfl
      · exact i0
      · exact i1
    have z2 : ∀ o : Option (Int32 × St), gd (inb (nI k) 2) o = o := fun o => gd_i hk (by omega) o
    have zc : Int32.toNatClampNeg (nI k) = k := cl (by omega)
    rcases hi with ⟨a, b⟩ | ⟨a, b, Q, q1, q2, q3⟩
    · refine ⟨-2, u, v, ?_, ?_, h⟩
      · unfold pX6_back
        rw [e, bd_s, i10, z2, zc, a, if_pos rfl]
      · unfold pX7_back
        rw [e', bd_s, i10, z2, zc, b, if_pos rfl]
    · obtain ⟨w, g1, g2, g3, g4, g5⟩ := X_becomes LF (p := k + 1) (j := 0) (by omega) (by omega) (by omega) u
      obtain ⟨y, m1, m2, m3, m4, m5⟩ := M_copies LF hLF (p := k + 1) (q := 0) (by omega) (by omega) (by omega) v
      have hX0 : CtX 0 c jn Q w := q2.becomes q1 c1 c2 g2 g5
      have hM0 : PgM 0 Q y := fun i hi => (m4 i hi).trans (q3 i hi)
      have y5 := hX0.2.2.2.2.1
      have s1 := X_sum LF hLF w (arr := 1) (fun i => Q (8 + i)) (show 2 * c ≤ 8 by omega) c1 (show 8 < 1000 by omega) hX0.1 (fun i hi => (y5 i hi).2.1)
      have s2 : pX7_lengthsOn LF 0 y = some (nI (sm (fun i => Q (8 + i)) (2 * c)), y) := M_lens LF hLF y (p := 0) (by omega) c1 ((congrFun m2 0).trans c5) hM0
      refine ⟨nI (sm (fun i => Q (8 + i)) (2 * c)), w, y, ?_, ?_, ?_⟩
      · unfold pX6_back
        have d : decide (k + 1 < 4) = true := decide_eq_true (by omega)
        rw [e, bd_s, i10, z2, zc, a, if_neg (show ¬ (1 : Int32) = 0 from by decide), image_n LF _ hk, bd_s, d, gd_true, g1, bd_s, s1, bd_s]
      · unfold pX7_back
        have t : (68 : Int32) * (nI k + 1) = nI (68 * (k + 1)) := by rw [nI_s, tm68]
        have m1' : pX7_copies LF (nI (68 * (k + 1))) 0 v = some ((), y) := m1
        rw [e', bd_s, i10, z2, zc, b, if_neg (show ¬ (1 : Int32) = 0 from by decide), t, m1', bd_s, s2, bd_s]
      · have old : ∀ j, j < 2 → RImg j c jn u v → RImg j c jn w y := fun j hj q => by
          refine q.same hj (fun i hi => g3 _ (by omega)) (fun i hi => g4 _ (by omega)) (by rw [g4 66 (by omega)]) (by rw [m3 12 (by omega)]) (fun i hi => m5 _ (by omega))
        refine ⟨c, jn, Q, ⟨c1, c2, q1, hX0, (congrFun m2 0).trans c5, (congrFun m2 1).trans c6, hM0⟩, old 0 (by omega) i0, old 1 (by omega) i1, ?_, ?_, ?_, ?_, ?_, ?_⟩
        · exact hs.fr (g3 29 (by omega)) (g4 _ (by omega)) (g4 _ (by omega)) (g4 _ (by omega)) (congrFun m2 21) (m3 _ (by omega))
        · exact ht.fr (g3 17 (by omega)) (g4 _ (by omega)) (congrFun m2 7) (m3 _ (by omega))
        · exact hw.tr (g3 18 (by omega)) (congrFun m2 8)
        · exact (g3 16 (by omega)).trans (htn.trans (congrFun m2 22).symm)
        · exact fun i hi => (hsh i hi).fr (g4 _ (by omega)) (g4 _ (by omega)) (g4 _ (by omega)) (m3 _ (by omega)) (m3 _ (by omega)) (m3 _ (by omega))
        · exact hc.fr (congrFun m2 15) (congrFun m2 17) (m3 _ (by omega)) (m3 _ (by omega)) (m3 _ (by omega))
  · refine ⟨-1, u, v, ?_, ?_, h⟩
    · unfold pX6_back
      rw [e, bd_s, i00]
    · unfold pX7_back
      rw [e', bd_s, i00]
end
section
/-! PURE: bits (out of the kit's laws), casts -/
def bt (x : Int32) (i : Nat) : Bool := x.toBitVec.getLsbD i
theorem b_ext {x y : Int32} (h : ∀ i, i < 32 → bt x i = bt y i) : x = y := Int32.toBitVec_inj.mp (BitVec.eq_of_getLsbD_eq (fun i hi => h i hi))
theorem s_l : ∀ n, n < 32 → ((nI n &&& 31).toBitVec.smod 32).toNat = n := by decide +kernel
theorem b_shl (n : Nat) (hn : n < 32) (x : Int32) {i : Nat} (hi : i < 32) : bt (x <<< (nI n &&& 31)) i = (decide (n ≤ i) && bt x (i - n)) := by
  unfold bt
  rw [Int32.toBitVec_shiftLeft]
  show (x.toBitVec <<< ((nI n &&& 31).toBitVec.smod 32).toNat).getLsbD i = _
  rw [s_l n hn, BitVec.getLsbD_shiftLeft]
  rcases Nat.lt_or_ge i n with h | h
  · simp [h, Nat.not_le.mpr h]
  · simp [hi, h, Nat.not_lt.mpr h]
theorem b_sshr (n : Nat) (hn : n < 32) (x : Int32) {i : Nat} (hi : i < 32) : bt (x >>> (nI n &&& 31)) i = if n + i < 32 then bt x (n + i) else bt x 31 := by
  unfold bt
  rw [Int32.toBitVec_shiftRight]
  show (x.toBitVec.sshiftRight ((nI n &&& 31).toBitVec.smod 32).toNat).getLsbD i = _
  rw [s_l n hn, BitVec.getLsbD_sshiftRight, BitVec.msb_eq_getLsbD_last]
  simp [hi]
theorem cast8 (x : Int32) : (x <<< ((24 : Int32) &&& 31)) >>> ((24 : Int32) &&& 31) = Int8.toInt32 (Int32.toInt8 x) := by
  apply b_ext
  intro i hi
  have e : bt (Int8.toInt32 (Int32.toInt8 x)) i = if i < 8 then bt x i else bt x 7 := by
    unfold bt
    rw [Int8.toBitVec_toInt32, Int32.toBitVec_toInt8, BitVec.getLsbD_signExtend, BitVec.msb_eq_getLsbD_last, BitVec.getLsbD_signExtend, BitVec.getLsbD_signExtend]
    by_cases h : i < 8
    · simp [hi, h]
    · simp [hi, h]
  rw [e]
  show bt ((x <<< (nI 24 &&& 31)) >>> (nI 24 &&& 31)) i = _
  rw [b_sshr 24 (by omega) _ hi]
  by_cases h : i < 8
  · rw [if_pos (by omega), if_pos h, b_shl 24 (by omega) _ (by omega), decide_eq_true (by omega), show 24 + i - 24 = i by omega, Bool.true_and]
  · rw [if_neg (by omega), if_neg h, b_shl 24 (by omega) _ (by omega), decide_eq_true (by omega), Bool.true_and]
theorem cast16 (x : Int32) : (x <<< ((16 : Int32) &&& 31)) >>> ((16 : Int32) &&& 31) = Int16.toInt32 (Int32.toInt16 x) := by
  apply b_ext
  intro i hi
  have e : bt (Int16.toInt32 (Int32.toInt16 x)) i = if i < 16 then bt x i else bt x 15 := by
    unfold bt
    rw [Int16.toBitVec_toInt32, Int32.toBitVec_toInt16, BitVec.getLsbD_signExtend, BitVec.msb_eq_getLsbD_last, BitVec.getLsbD_signExtend, BitVec.getLsbD_signExtend]
    by_cases h : i < 16
    · simp [hi, h]
    · simp [hi, h]
  rw [e]
  show bt ((x <<< (nI 16 &&& 31)) >>> (nI 16 &&& 31)) i = _
  rw [b_sshr 16 (by omega) _ hi]
  by_cases h : i < 16
  · rw [if_pos (by omega), if_pos h, b_shl 16 (by omega) _ (by omega), decide_eq_true (by omega), show 16 + i - 16 = i by omega, Bool.true_and]
  · rw [if_neg (by omega), if_neg h, b_shl 16 (by omega) _ (by omega), decide_eq_true (by omega), Bool.true_and]
/-! sheets -/
theorem X_renewL (F : Nat) (hF : 80 ≤ F) {k n : Nat} (hk : k < 4) (hn : n ≤ 40) (u : St) : ∃ w, lq1 (bX4_renew_17 F (nI k) (nI n)) F 0 u = some ((), w) ∧ w.1 = u.1 ∧ (∀ a, a ≠ 63 → w.2 a = u.2 a) ∧ (∀ x, x < n → w.2 63 (40 * k + x) = 0) ∧ ∀ x, (x < 40 * k ∨ 40 * k + 40 ≤ x) → w.2 63 x = u.2 63 x := by
  refine lq1_up (n := n) (I := fun i w => w.1 = u.1 ∧ (∀ a, a ≠ 63 → w.2 a = u.2 a) ∧ (∀ x, x < i → w.2 63 (40 * k + x) = 0) ∧ ∀ x, (x < 40 * k ∨ 40 * k + 40 ≤ x) → w.2 63 x = u.2 63 x) (Q := fun o => ∃ w : St, o = some ((), w) ∧ w.1 = u.1 ∧ (∀ a, a ≠ 63 → w.2 a = u.2 a) ∧ (∀ x, x < n → w.2 63 (40 * k + x) = 0) ∧ ∀ x, (x < 40 * k ∨ 40 * k + 40 ≤ x) → w.2 63 x = u.2 63 x) ?_ ?_ n 0 F u (by omega) (by omega) ⟨rfl, fun _ _ => rfl, fun x hx => by omega, fun _ _ => rfl⟩
  · intro s w hw
    refine ⟨w, ?_, hw⟩
    unfold bX4_renew_17
    rw [if_pos (yle (Nat.le_refl _) (by omega))]
  · rintro s i w hi ⟨w1, w2, w3, w4⟩
    refine Or.inr ⟨sta w 63 (nI (k * 40 + i)) 0, ?_, w1, fun a ha => by rw [sta_m _ _ _ ha]; exact w2 a ha, fun x hx => ?_, fun x hx => ?_⟩
    · unfold bX4_renew_17
      rw [if_neg (nle hi (by omega)), mt40, nI_add, nI_s, gd_i (by omega) (by omega), vl_e]
    · rw [sta_h _ _ (by omega)]
      by_cases q : x = i
      · rw [if_pos (by omega)]
      · rw [if_neg (by omega)]; exact w3 x (by omega)
    · rw [sta_h _ _ (by omega), if_neg (by omega)]; exact w4 x hx
theorem M_renewL (F : Nat) (hF : 80 ≤ F) {k : Nat} (hk : k < 4) (u : St) : ∃ w, lq1 (bX7_sheet_56 F (nI k)) F 0 u = some ((1 : Int32), w) ∧ w.1 = u.1 ∧ (∀ a, a ≠ 11 → w.2 a = u.2 a) ∧ (∀ x, x < 40 → w.2 11 (40 * k + x) = 0) ∧ ∀ x, (x < 40 * k ∨ 40 * k + 40 ≤ x) → w.2 11 x = u.2 11 x := by
  refine lq1_up (n := 40) (I := fun i w => w.1 = u.1 ∧ (∀ a, a ≠ 11 → w.2 a = u.2 a) ∧ (∀ x, x < i → w.2 11 (40 * k + x) = 0) ∧ ∀ x, (x < 40 * k ∨ 40 * k + 40 ≤ x) → w.2 11 x = u.2 11 x) (Q := fun o => ∃ w : St, o = some ((1 : Int32), w) ∧ w.1 = u.1 ∧ (∀ a, a ≠ 11 → w.2 a = u.2 a) ∧ (∀ x, x < 40 → w.2 11 (40 * k + x) = 0) ∧ ∀ x, (x < 40 * k ∨ 40 * k + 40 ≤ x) → w.2 11 x = u.2 11 x) ?_ ?_ 40 0 F u (by omega) (by omega) ⟨rfl, fun _ _ => rfl, fun x hx => by omega, fun _ _ => rfl⟩
  · intro s w hw
    refine ⟨w, ?_, hw⟩
    unfold bX7_sheet_56
    rw [L40, if_pos (yle (Nat.le_refl _) (by omega))]
  · rintro s i w hi ⟨w1, w2, w3, w4⟩
    refine Or.inr ⟨sta w 11 (nI (40 * k + i)) 0, ?_, w1, fun a ha => by rw [sta_m _ _ _ ha]; exact w2 a ha, fun x hx => ?_, fun x hx => ?_⟩
    · unfold bX7_sheet_56
      rw [if_neg (show ¬ (40 : Int32) ≤ nI i from by rw [L40]; exact nle hi (by omega)), tm40, nI_add, nI_s, gd_i (by omega) (by omega), vl_e]
    · rw [sta_h _ _ (by omega)]
      by_cases q : x = i
      · rw [if_pos (by omega)]
      · rw [if_neg (by omega)]; exact w3 x (by omega)
    · rw [sta_h _ _ (by omega), if_neg (by omega)]; exact w4 x hx
theorem two_sheet (x0 x1 : Int32) : (∃ k ln : Nat, k < 4 ∧ ln ≤ 2 ∧ x0 = nI k ∧ x1 = nI ln ∧ (∀ F u, pX6_isSheet F x0 x1 u = some (1, u)) ∧ (∀ F v, pX7_in F (Int32.toInt64 x0) 0 3 v = some (1, v)) ∧ ∀ F v, pX7_in F (Int32.toInt64 x1) 0 2 v = some (1, v)) ∨ ((∀ F u, pX6_isSheet F x0 x1 u = some (0, u)) ∧ ((∀ F v, pX7_in F (Int32.toInt64 x0) 0 3 v = some (0, v)) ∨ ((∀ F v, pX7_in F (Int32.toInt64 x0) 0 3 v = some (1, v)) ∧ ∀ F v, pX7_in F (Int32.toInt64 x1) 0 2 v = some (0, v)))) := by
  unfold pX6_isSheet
  rcases rng x0 (a0 := 0) (b0 := 3) (a1 := 0) (b1 := 3) 0 3 rfl rfl rfl rfl (by omega) (by omega) with ⟨k, k1, k2, rfl, e, e'⟩ | ⟨-, e, e'⟩
  · rcases rng x1 (a0 := 0) (b0 := 2) (a1 := 0) (b1 := 2) 0 2 rfl rfl rfl rfl (by omega) (by omega) with ⟨ln, l1, l2, rfl, g, g'⟩ | ⟨-, g, g'⟩
    · exact Or.inl ⟨k, ln, by omega, by omega, rfl, rfl, fun F u => by rw [e, bd_s, i10, g, bd_s, i10], e', g'⟩
    · exact Or.inr ⟨fun F u => by rw [e, bd_s, i10, g, bd_s, i00], Or.inr ⟨e', g'⟩⟩
  · exact Or.inr ⟨fun F u => by rw [e, bd_s, i00], Or.inl e'⟩
theorem RImg.un {k c jn : Nat} {u v u' v' : St} (h : RImg k c jn u v) (hk : k < 2) (e1 : u'.1 = u.1) (e2 : ∀ a, (a < 63 ∨ 65 < a) → u'.2 a = u.2 a) (f1 : v'.2 12 = v.2 12) (f2 : v'.2 0 = v.2 0) : RImg k c jn u' v' := h.same hk (fun i hi => by rw [e1]) (fun i hi => by rw [e2 _ (by omega)]) (by rw [e2 66 (by omega)]) (by rw [f1]) (fun i hi => by rw [f2])
/-- the sheets alone have changed -/
theorem RR.sh {u v u' v' : St} (h : RR u v) (e1 : u'.1 = u.1) (e2 : ∀ a, (a < 63 ∨ 65 < a) → u'.2 a = u.2 a) (f1 : v'.1 = v.1) (f2 : ∀ a, (a < 9 ∨ 11 < a) → v'.2 a = v.2 a) (hs : ∀ k, k < 4 → RSheet k u' v') : RR u' v' := by
  obtain ⟨c, jn, P, ⟨c1, c2, c3, hX, c5, c6, c7⟩, i0, i1, hse, ht, hw, htn, hsh, hc⟩ := h
  refine ⟨c, jn, P, ⟨c1, c2, c3, hX.frj (fun i hi => by rw [e1]) (fun i hi => e2 _ (by omega)), by rw [f1]; exact c5, by rw [f1]; exact c6, fun i hi => by rw [f2 0 (by omega)]; exact c7 i hi⟩, i0.un (by omega) e1 e2 (f2 _ (by omega)) (f2 _ (by omega)), i1.un (by omega) e1 e2 (f2 _ (by omega)) (f2 _ (by omega)), hse.fr (by rw [e1]) (e2 _ (by omega)) (e2 _ (by omega)) (e2 _ (by omega)) (by rw [f1]) (f2 _ (by omega)), ht.fr (by rw [e1]) (e2 _ (by omega)) (by rw [f1]) (f2 _ (by omega)), by rw [e1, f1]; exact hw, by rw [e1, f1]; exact htn, hs, hc.fr (by rw [f1]) (by rw [f1]) (f2 _ (by omega)) (f2 _ (by omega)) (f2 _ (by omega))⟩
theorem step_sheet {u v : St} (h : RR u v) (x0 x1 x2 : Int32) : ∃ (r : Int32) (u' v' : St), pX6_sheet LF x0 x1 x2 u = some (r, u') ∧ pX7_sheet LF x0 x1 x2 v = some (r, v') ∧ RR u' v' := by
  have hLF : 80 ≤ LF := by decide
  have hsh : ∀ k, k < 4 → RSheet k u v := by
    obtain ⟨c, jn, P, -, -, -, -, -, -, -, q, -⟩ := h
    exact q
  unfold pX6_sheet pX7_sheet
  rcases two_sheet x0 x1 with ⟨k, ln, hk, hl, rfl, rfl, e, e0, e1⟩ | ⟨e, e0 | ⟨e0, e1⟩⟩
  · rw [e, bd_s, i10, e0, bd_s, i10, e1, bd_s, i10]
    by_cases q1 : x2 ≤ 40
    · rw [if_pos q1, if_pos q1]
      by_cases q2 : (0 : Int32) ≤ x2
      · rw [if_pos q2, if_pos q2]
        obtain ⟨n, -, n2, rfl⟩ := nI_in2 (x := x2) (lo := 0) (hi := 40) ⟨by have := Int32.le_iff_toInt_le.mp q2; exact this, by have := Int32.le_iff_toInt_le.mp q1; exact this⟩ (by omega)
        obtain ⟨w, w1, w2, w3, w4, w5⟩ := X_renewL LF hLF hk n2 (sta (sta u 64 (nI k) (nI ln)) 65 (nI k) (nI n))
        obtain ⟨y, y1, y2, y3, y4, y5⟩ := M_renewL LF hLF hk (sta (sta v 9 (nI k) (nI ln)) 10 (nI k) (nI n))
        refine ⟨1, w, y, ?_, ?_, h.sh (w2.trans rfl) (fun a ha => by rw [w3 a (by omega), sta_m _ _ _ (by omega), sta_m _ _ _ (by omega)]) (y2.trans rfl) (fun a ha => by rw [y3 a (by omega), sta_m _ _ _ (by omega), sta_m _ _ _ (by omega)]) (fun j hj => ?_)⟩
        · unfold pX4_renew
          rw [gd_i (by omega) (by omega), vl_e, gd_i (by omega) (by omega), vl_e, w1, bd_s]
        · rw [gd_i (by omega) (by omega), vl_e, gd_i (by omega) (by omega), vl_e, y1]
        · have x64 : w.2 64 j = if j = k then nI ln else u.2 64 j := by rw [w3 64 (by omega), sta_m _ _ _ (by omega), sta_h _ _ (by omega)]
          have x65 : w.2 65 j = if j = k then nI n else u.2 65 j := by rw [w3 65 (by omega), sta_h _ _ (by omega), sta_m _ _ _ (by omega)]
          have z9 : y.2 9 j = if j = k then nI ln else v.2 9 j := by rw [y3 9 (by omega), sta_m _ _ _ (by omega), sta_h _ _ (by omega)]
          have z10 : y.2 10 j = if j = k then nI n else v.2 10 j := by rw [y3 10 (by omega), sta_h _ _ (by omega), sta_m _ _ _ (by omega)]
          by_cases q : j = k
          · subst q
            rw [if_pos rfl] at x64 x65 z9 z10
            exact Or.inr ⟨ln, n, hl, n2, x64, z9, x65, z10, fun i hi => by rw [w4 i hi, y4 i (by omega)]⟩
          · rw [if_neg q] at x64 x65 z9 z10
            have x63 : ∀ i, i < 40 → w.2 63 (40 * j + i) = u.2 63 (40 * j + i) := fun i hi => by rw [w5 _ (by omega), sta_m _ _ _ (by omega), sta_m _ _ _ (by omega)]
            have z11 : ∀ i, i < 40 → y.2 11 (40 * j + i) = v.2 11 (40 * j + i) := fun i hi => by rw [y5 _ (by omega), sta_m _ _ _ (by omega), sta_m _ _ _ (by omega)]
            rcases hsh j hj with ⟨a, b⟩ | ⟨l', m', a1, a2, a3, a4, a5, a6, a7⟩
            · exact Or.inl ⟨x65.trans a, z9.trans b⟩
            · exact Or.inr ⟨l', m', a1, a2, x64.trans a3, z9.trans a4, x65.trans a5, z10.trans a6, fun i hi => by rw [x63 i (by omega), z11 i (by omega)]; exact a7 i hi⟩
      · rw [if_neg q2, if_neg q2]
        exact ⟨_, _, _, rfl, rfl, h⟩
    · rw [if_neg q1, if_neg q1]
      exact ⟨_, _, _, rfl, rfl, h⟩
  · rw [e, bd_s, i00, e0, bd_s, i00]
    exact ⟨_, _, _, rfl, rfl, h⟩
  · rw [e, bd_s, i00, e0, bd_s, i10, e1, bd_s, i00]
    exact ⟨_, _, _, rfl, rfl, h⟩
theorem isS0 (x : Int32) : (∃ k : Nat, k < 4 ∧ x = nI k ∧ (∀ F u, pX6_isSheet F x 0 u = some (1, u)) ∧ ∀ F v, pX7_in F (Int32.toInt64 x) 0 3 v = some (1, v)) ∨ ((∀ F u, pX6_isSheet F x 0 u = some (0, u)) ∧ ∀ F v, pX7_in F (Int32.toInt64 x) 0 3 v = some (0, v)) := by
  have g : ∀ F u, pX6_isIn F (Int32.toInt64 0) 0 2 u = some (1, u) := fun F u => by
    rw [X_isIn, b01_t (by decide +kernel)]
  unfold pX6_isSheet
  rcases rng x (a0 := 0) (b0 := 3) (a1 := 0) (b1 := 3) 0 3 rfl rfl rfl rfl (by omega) (by omega) with ⟨k, k1, k2, rfl, e, e'⟩ | ⟨-, e, e'⟩
  · exact Or.inl ⟨k, by omega, rfl, fun F u => by rw [e, bd_s, i10, g, bd_s, i10], e'⟩
  · exact Or.inr ⟨fun F u => by rw [e, bd_s, i00], e'⟩
/-- a cell of a sheet: on both sides, or on none -/
theorem two_cell {u v : St} {k n : Nat} (hk : k < 4) (hn : n ≤ 40) (e5 : u.2 65 k = nI n) (e6 : v.2 10 k = nI n) (x : Int32) : (∃ i : Nat, i < n ∧ x = nI i ∧ (∀ F, pX4_hasCell F (nI k) x u = some (1, u)) ∧ ∀ F, pX7_in F (Int32.toInt64 x) 0 (Int32.toInt64 (v.2 10 k - 1)) v = some (1, v)) ∨ (¬ (0 ≤ x.toInt ∧ x.toInt ≤ (n : Int) - 1) ∧ (∀ F, pX4_hasCell F (nI k) x u = some (0, u)) ∧ ∀ F, pX7_in F (Int32.toInt64 x) 0 (Int32.toInt64 (v.2 10 k - 1)) v = some (0, v)) := by
  have hb : (nI n - 1).toInt = (n : Int) - 1 := subL (by omega)
  rw [e6]
  rcases rng x (a0 := 0) (b0 := nI n - 1) (a1 := 0) (b1 := Int32.toInt64 (nI n - 1)) 0 ((n : Int) - 1) rfl rfl hb (by rw [tI64]; exact hb) (by omega) (by omega) with ⟨i, i1, i2, rfl, e, e'⟩ | ⟨q, e, e'⟩
  · exact Or.inl ⟨i, by omega, rfl, fun F => by unfold pX4_hasCell; rw [gd_i (by omega) (by omega), cl (by omega), e5, e, bd_s, z01_1, gd_true], fun F => e' F v⟩
  · exact Or.inr ⟨q, fun F => by unfold pX4_hasCell; rw [gd_i (by omega) (by omega), cl (by omega), e5, e, bd_s, z01_0, gd_true], fun F => e' F v⟩
theorem step_lay {u v : St} (h : RR u v) (x0 x1 x2 : Int32) : ∃ (r : Int32) (u' v' : St), pX6_lay LF x0 x1 x2 u = some (r, u') ∧ pX7_lay LF x0 x1 x2 v = some (r, v') ∧ RR u' v' := by
  have hsh : ∀ k, k < 4 → RSheet k u v := by
    obtain ⟨c, jn, P, -, -, -, -, -, -, -, q, -⟩ := h
    exact q
  unfold pX6_lay pX7_lay
  rcases isS0 x0 with ⟨k, hk, rfl, e, e0⟩ | ⟨e, e0⟩
  · have zg : ∀ o : Option (Int32 × St), gd (inb (nI k) 4) o = o := fun o => gd_i hk (by omega) o
    have zg' : ∀ o : Option (Unit × St), gd (inb (nI k) 4) o = o := fun o => gd_i hk (by omega) o
    have zc : Int32.toNatClampNeg (nI k) = k := cl (by omega)
    rw [e, bd_s, i10, e0, bd_s, i10]
    unfold pX4_isNothing
    rw [zg, zg, zc]
    rcases hsh k hk with ⟨a, b⟩ | ⟨ln, n, a1, a2, a3, a4, a5, a6, a7⟩
    · rw [a, b, if_pos rfl, if_pos rfl, bd_s, i10]
      exact ⟨_, _, _, rfl, rfl, h⟩
    · rw [a5, if_neg (m4_lt (by omega)).2.1, a4, if_neg (m4_lt (by omega)).2.1, bd_s, i00, zg]
      rcases two_cell hk a2 a5 a6 x1 with ⟨i, hi, rfl, g, g'⟩ | ⟨-, g, g'⟩
      · rw [g, bd_s, i10, g', bd_s, i10, zg]
        obtain ⟨z, hz⟩ : ∃ z, z = if ln = 0 then Int8.toInt32 (Int32.toInt8 x2) else if ln = 1 then Int16.toInt32 (Int32.toInt16 x2) else x2 := ⟨_, rfl⟩
        have kX : pX4_put LF (nI k) (nI i) x2 u = some ((), sta u 63 (nI (k * 40 + i)) z) := by
          unfold pX4_put
          simp only [zg', zc, a3, jn_e, vl_e, mt40, nI_add]
          rw [L0, L1]
          have q : ln = 0 ∨ ln = 1 ∨ ln = 2 := by omega
          rcases q with rfl | rfl | rfl
          · rw [if_pos rfl] at hz
            rw [if_pos rfl, gd_i (by omega) (by omega), hz]
          · rw [if_neg (by omega), if_pos rfl] at hz
            rw [if_neg (by decide), if_pos rfl, gd_i (by omega) (by omega), hz]
          · rw [if_neg (by omega), if_neg (by omega)] at hz
            rw [if_neg (by decide), if_neg (by decide), gd_i (by omega) (by omega), hz]
        rw [kX, bd_s]
        refine ⟨1, sta u 63 (nI (k * 40 + i)) z, sta v 11 (nI (40 * k + i)) z, rfl, ?_, h.sh rfl (fun a ha => sta_m _ _ _ (by omega)) rfl (fun a ha => sta_m _ _ _ (by omega)) (fun j hj => ?_)⟩
        · rw [cast8, cast16]
          simp only [zg, zc, a4, jn_e, vl_e, tm40, nI_add]
          have q : ln = 0 ∨ ln = 1 ∨ ln = 2 := by omega
          rcases q with rfl | rfl | rfl
          · rw [if_pos rfl] at hz
            rw [if_pos (show nI 0 = 0 from rfl), gd_i (by omega) (by omega), hz]
          · rw [if_neg (by omega), if_pos rfl] at hz
            rw [if_neg (show ¬ nI 1 = 0 by decide), if_pos (show nI 1 = 1 from rfl), gd_i (by omega) (by omega), hz]
          · rw [if_neg (by omega), if_neg (by omega)] at hz
            rw [if_neg (show ¬ nI 2 = 0 by decide), if_neg (show ¬ nI 2 = 1 by decide), gd_i (by omega) (by omega), hz]
        · unfold RSheet
          rw [sta_m u _ _ (show 64 ≠ 63 by omega), sta_m u _ _ (show 65 ≠ 63 by omega), sta_m v _ _ (show 9 ≠ 11 by omega), sta_m v _ _ (show 10 ≠ 11 by omega)]
          rcases hsh j hj with a | ⟨l', m', d1, d2, d3, d4, d5, d6, d7⟩
          · exact Or.inl a
          · refine Or.inr ⟨l', m', d1, d2, d3, d4, d5, d6, fun y hy => ?_⟩
            rw [sta_h _ _ (by omega), sta_h _ _ (by omega)]
            by_cases q : 40 * j + y = 40 * k + i
            · rw [if_pos (by omega), if_pos q]
            · rw [if_neg (by omega), if_neg q]; exact d7 y hy
      · rw [g, bd_s, i00, g', bd_s, i00]
        exact ⟨_, _, _, rfl, rfl, h⟩
  · rw [e, bd_s, i00, e0, bd_s, i00]
    exact ⟨_, _, _, rfl, rfl, h⟩
end
section
/-! PURE: trials -/
/-- a trial stands as a page has it -/
def TP (P S : Nat → Nat) (cc jj : Nat) (u : St) : Prop := TrX u (P (2 * cc)) (P (8 + 2 * cc)) (P (16 + 2 * cc)) (P (2 * cc + 1)) (P (8 + (2 * cc + 1))) (P (16 + (2 * cc + 1))) (P (40 + jj)) (P (43 + jj)) S
theorem X_prepP (F : Nat) (hF : 30 ≤ F) {c jn cc jj aw : Nat} {P : Nat → Nat} (u : St) (hc4 : c ≤ 4) (hj3 : jn ≤ 3) (hP : PgOK c jn P) (hX : CtX 0 c jn P u) (hc : cc < c) (hj : jj < jn) (ha : aw < 16) :
    ∃ u', pX5_prepare F (nI cc) (nI jj) (nI aw) u = some ((), u') ∧ TP P (stg P aw (P 46)) cc jj u' ∧ eqT u u' := X_prepare F hF u hc4 hj3 hP hX hc hj ha
theorem X_heldP (F : Nat) (hF : 30 ≤ F) {c jn cc jj : Nat} {P S : Nat → Nat} (u : St) (hPg : PgOK c jn P) (hc : cc < c) (hj : jj < jn) (hS : ∀ m, S m < 1000) (h : TP P S cc jj u) :
    ∃ u', pX5_verdictHeld F u = some (nI (hP P S cc jj).1, u') ∧ (u'.2 56 0 = nI (hP P S cc jj).2.2.1 ∧ u'.2 56 1 = nI (hP P S cc jj).2.2.2 ∧ u'.1 26 = nI (hP P S cc jj).2.1) ∧ eqT u u' := by
  have q0 := hPg.2.2.1 (2 * cc) (by omega)
  have q1 := hPg.2.2.1 (2 * cc + 1) (by omega)
  have q2 := hPg.2.2.2.2.1 jj hj
  obtain ⟨w, k1, k2, k3, k4⟩ := X_held F hF u h q0.1 q1.1 (by omega) (by omega) (by omega) (by omega) (by omega) hS q2.2.2
  exact ⟨w, k1, ⟨k2.2.1.1, k2.2.1.2, k3⟩, k4⟩
theorem stg_lt {c jn : Nat} {P : Nat → Nat} (h : PgOK c jn P) (aw m : Nat) : stg P aw (P 46) m < 1000 := by
  have := stg_bd h aw (P 46) (Nat.le_refl _) m
  omega
theorem X_nowP (F : Nat) (hF : 30 ≤ F) {c jn cc jj : Nat} {P : Nat → Nat} (u : St) (hc4 : c ≤ 4) (hj3 : jn ≤ 3) (hPg : PgOK c jn P) (hX : CtX 0 c jn P u) (hc : cc < c) (hj : jj < jn) :
    ∃ u', pX6_verdictNow F (nI cc) (nI jj) u = some (nI (hP P (stg P 0 (P 46)) cc jj).1, u') ∧ eqT u u' := by
  obtain ⟨w, g1, -, -, -, g5⟩ := X_now F hF u hc4 hj3 hPg hX hc hj
  exact ⟨w, g1, g5⟩
/-- what trials leave of the reference -/
def eqR (v v' : St) : Prop := (∀ k, k ≠ 18 → v'.1 k = v.1 k) ∧ (∀ k, k ≠ 0 → v'.2 k = v.2 k) ∧ ∀ i, (i < 272 ∨ 408 ≤ i) → v'.2 0 i = v.2 0 i
theorem eqR.rf {v : St} : eqR v v := ⟨fun _ _ => rfl, fun _ _ => rfl, fun _ _ => rfl⟩
theorem eqR.tr {u w x : St} (h : eqR u w) (h2 : eqR w x) : eqR u x := ⟨fun k q => (h2.1 k q).trans (h.1 k q), fun k q => (h2.2.1 k q).trans (h.2.1 k q), fun k q => (h2.2.2 k q).trans (h.2.2 k q)⟩
theorem eqR.m {v v' : St} (h : eqR v v') : eqM v v' := ⟨fun i hi => h.2.2 i (by omega), ⟨h.1 _ (by omega), h.1 _ (by omega), h.1 _ (by omega), h.1 _ (by omega), h.1 _ (by omega), h.1 _ (by omega), h.1 _ (by omega), h.1 _ (by omega)⟩, fun k hk => h.2.1 k (by omega)⟩
theorem eqR.pg {v v' : St} {P : Nat → Nat} (h : eqR v v') (hM : PgM 0 P v) : PgM 0 P v' := fun k hk => by
  rw [h.2.2 _ (by omega)]
  exact hM k hk
theorem eqR.env {v v' : St} {aw mm ms : Nat} (h : eqR v v') (hE : MEnv aw mm ms v) : MEnv aw mm ms v' := by
  obtain ⟨e1, e2, e3, e4, e5, e6, e7⟩ := hE
  refine ⟨e1, (h.1 15 (by omega)).trans e2, ?_, (h.1 17 (by omega)).trans e4, e5, e6, (h.2.1 1 (by omega)).trans e7⟩
  rw [h.1 16 (by omega)]
  exact e3
theorem M_triesP (F : Nat) (hF : 80 ≤ F) {p c jn aw mm ms cc jj : Nat} {P : Nat → Nat} (v : St) (hp : p < 6) (hp4 : p ≠ 4) (hc4 : c ≤ 4) (hj3 : jn ≤ 3) (hPg : PgOK c jn P) (hM : PgM p P v) (hE : MEnv aw mm ms v) (hc : cc < c) (hj : jj < jn) :
    ∃ v', pX7_tries F (nI (68 * p)) (nI cc) (nI jj) v = some (nI (hP P (stm P aw mm ms (P 46)) cc jj).1, v') ∧ eqR v v' := by
  obtain ⟨v', k1, -, -, k4, k5, k6⟩ := M_tries F hF v hp hp4 hc4 hj3 hPg hM hE hc hj
  exact ⟨v', k1, k4, k5, fun i hi => k6 i (by omega)⟩
theorem M_tries0 (F : Nat) (hF : 80 ≤ F) {c jn cc jj : Nat} {P : Nat → Nat} (v : St) (hc4 : c ≤ 4) (hj3 : jn ≤ 3) (hPg : PgOK c jn P) (hM : PgM 0 P v) (hE : MEnv 0 0 0 v) (hc : cc < c) (hj : jj < jn) :
    ∃ v', pX7_tries F 0 (nI cc) (nI jj) v = some (nI (hP P (stg P 0 (P 46)) cc jj).1, v') ∧ eqR v v' := by
  obtain ⟨v', k1, k2⟩ := M_triesP F hF (p := 0) v (by omega) (by omega) hc4 hj3 hPg hM hE hc hj
  rw [stm_0] at k1
  exact ⟨v', k1, k2⟩
/-- won for a side -/
def wn (P S : Nat → Nat) (cc s jj : Nat) : Bool := decide ((hP P S cc jj).1 = s + 1)
theorem M_isWon (F : Nat) (hF : 80 ≤ F) {p c jn aw mm ms cc jj s : Nat} {P : Nat → Nat} (v : St) (hp : p < 6) (hp4 : p ≠ 4) (hc4 : c ≤ 4) (hj3 : jn ≤ 3) (hPg : PgOK c jn P) (hM : PgM p P v) (hE : MEnv aw mm ms v) (hc : cc < c) (hj : jj < jn) (hs : s < 2) :
    ∃ v', pX7_isWonBy F (nI (68 * p)) (nI cc) (nI s) (nI jj) v = some (if wn P (stm P aw mm ms (P 46)) cc s jj = true then 1 else 0, v') ∧ eqR v v' := by
  obtain ⟨v', k1, k2⟩ := M_triesP F hF v hp hp4 hc4 hj3 hPg hM hE hc hj
  have hb := hP_bd hPg (stm P aw mm ms (P 46)) hc hj
  refine ⟨v', ?_, k2⟩
  unfold pX7_isWonBy wn
  rw [k1, bd_s, nI_s, ifeq (by omega) (by omega)]
  by_cases q : (hP P (stm P aw mm ms (P 46)) cc jj).1 = s + 1
  · rw [if_pos q, if_pos (decide_eq_true q)]
  · rw [if_neg q, if_neg (by simp [q])]
theorem M_isWon0 (F : Nat) (hF : 80 ≤ F) {c jn cc jj s : Nat} {P : Nat → Nat} (v : St) (hc4 : c ≤ 4) (hj3 : jn ≤ 3) (hPg : PgOK c jn P) (hM : PgM 0 P v) (hE : MEnv 0 0 0 v) (hc : cc < c) (hj : jj < jn) (hs : s < 2) :
    ∃ v', pX7_isWonBy F 0 (nI cc) (nI s) (nI jj) v = some (if wn P (stg P 0 (P 46)) cc s jj = true then 1 else 0, v') ∧ eqR v v' := by
  obtain ⟨v', k1, k2⟩ := M_isWon F hF (p := 0) v (by omega) (by omega) hc4 hj3 hPg hM hE hc hj hs
  rw [stm_0] at k1
  exact ⟨v', k1, k2⟩
/-! friends -/
theorem X_judges (F : Nat) (hF : 80 ≤ F) {c jn cc s : Nat} {P : Nat → Nat} (u : St) (hc4 : c ≤ 4) (hj3 : jn ≤ 3) (hPg : PgOK c jn P) (hX : CtX 0 c jn P u) (hc : cc < c) (hs : s < 2) :
    ∃ u', pX6_judgesFor F (nI cc) (nI s) u = some (bI (wn P (stg P 0 (P 46)) cc s) jn, u') ∧ eqT u u' := by
  unfold pX6_judgesFor
  refine lq2_up (n := jn) (I := fun i x w => x = bI (wn P (stg P 0 (P 46)) cc s) i ∧ eqT u w) (Q := fun o => ∃ u' : St, o = some (bI (wn P (stg P 0 (P 46)) cc s) jn, u') ∧ eqT u u') ?_ ?_ jn 0 F 0 u (by omega) (by omega) ⟨rfl, eqT.rf⟩
  · rintro g x w ⟨rfl, hw⟩
    refine ⟨w, ?_, hw⟩
    have h1 : w.1 1 = nI jn := (hw.1 1 (by omega)).trans hX.2.1
    unfold bX6_judgesFor_5
    rw [h1, if_pos (yle (Nat.le_refl _) (by omega))]
  · rintro g i x w hi ⟨rfl, hw⟩
    have h1 : w.1 1 = nI jn := (hw.1 1 (by omega)).trans hX.2.1
    obtain ⟨y, y1, y2⟩ := X_nowP F (by omega) w hc4 hj3 hPg (hX.eq (by omega) hw.x) hc hi
    have hb := hP_bd hPg (stg P 0 (P 46)) hc hi
    refine Or.inr ⟨bI (wn P (stg P 0 (P 46)) cc s) (i + 1), y, ?_, rfl, hw.tr y2⟩
    unfold bX6_judgesFor_5
    rw [h1, if_neg (nle hi (by omega)), y1, bd_s]
    simp only [jn_e, vl_e, nI_s]
    rw [ifeq (by omega) (by omega), bI]
    by_cases q : (hP P (stg P 0 (P 46)) cc i).1 = s + 1
    · rw [if_pos q, if_pos (show wn P (stg P 0 (P 46)) cc s i = true from decide_eq_true q)]
    · rw [if_neg q, if_neg (by unfold wn; simp [q])]
theorem step_friends {u v : St} (h : RR u v) (x0 x1 : Int32) : ∃ (r : Int32) (u' v' : St), pX6_friends LF x0 x1 u = some (r, u') ∧ pX7_friends LF x0 x1 v = some (r, v') ∧ RR u' v' := by
  obtain ⟨c, jn, P, ⟨c1, c2, c3, hX, c5, c6, c7⟩, i0, i1, hs, ht, hw, htn, hsh, hc⟩ := id h
  have hLF : 80 ≤ LF := by decide
  unfold pX6_friends pX6_isFlame pX7_friends
  rcases two_case x0 c1 hX.1 c5 with ⟨a, a1, rfl, e, e'⟩ | ⟨e, e'⟩
  · rcases two_side x1 with ⟨s, s1, rfl, k, k'⟩ | ⟨k, k'⟩
    · simp only [e, e', k, k', bd_s, i10]
      obtain ⟨u', g1, g2⟩ := X_judges LF hLF u c1 c2 c3 hX a1 s1
      have m : ∃ v', lq2 (bX7_friends_22 LF (nI a) (nI s)) LF 0 0 v = some (bI (wn P (stg P 0 (P 46)) a s) jn, v') ∧ eqR v v' := by
        refine lq2_up (n := jn) (I := fun i x w => x = bI (wn P (stg P 0 (P 46)) a s) i ∧ eqR v w) (Q := fun o => ∃ v' : St, o = some (bI (wn P (stg P 0 (P 46)) a s) jn, v') ∧ eqR v v') ?_ ?_ jn 0 LF 0 v (by omega) (by omega) ⟨rfl, eqR.rf⟩
        · rintro g x w ⟨rfl, hw⟩
          refine ⟨w, ?_, hw⟩
          have h1 : w.1 1 = nI jn := (hw.1 1 (by omega)).trans c6
          unfold bX7_friends_22
          rw [h1, if_pos (yle (Nat.le_refl _) (by omega))]
        · rintro g i x w hi ⟨rfl, hw⟩
          have h1 : w.1 1 = nI jn := (hw.1 1 (by omega)).trans c6
          obtain ⟨y, y1, y2⟩ := M_isWon0 LF hLF w c1 c2 c3 (hw.pg c7) (hw.env (menv0 hc)) a1 hi s1
          refine Or.inr ⟨bI (wn P (stg P 0 (P 46)) a s) (i + 1), y, ?_, rfl, hw.tr y2⟩
          unfold bX7_friends_22
          rw [h1, if_neg (nle hi (by omega)), y1, bd_s]
          simp only [jn_e, vl_e, nI_s]
          rw [bI]
          by_cases q : wn P (stg P 0 (P 46)) a s i = true
          · rw [if_pos q, if_pos q, if_neg (show ¬ (1 : Int32) = 0 by decide)]
          · rw [if_neg q, if_neg q, if_pos rfl]
      obtain ⟨v', m1, m2⟩ := m
      rw [g1, m1]
      exact ⟨_, _, _, rfl, rfl, h.eq g2.x m2.m⟩
    · simp only [e, e', k, k', bd_s, i10, i00]
      exact ⟨_, _, _, rfl, rfl, h⟩
  · simp only [e, e', bd_s, i00]
    exact ⟨_, _, _, rfl, rfl, h⟩
/-! the first that fits -/
def FF (q : Nat → Bool) (n : Nat) (r : Int32) : Prop := (∃ i, i < n ∧ q i = true ∧ (∀ m, m < i → q m = false) ∧ r = nI i) ∨ ((∀ m, m < n → q m = false) ∧ r = -4)
theorem FF.un {q : Nat → Bool} {n : Nat} {r r' : Int32} (h : FF q n r) (h' : FF q n r') : r = r' := by
  rcases h with ⟨i, i1, i2, i3, rfl⟩ | ⟨i1, rfl⟩
  · rcases h' with ⟨k, k1, k2, k3, rfl⟩ | ⟨k1, rfl⟩
    · have e : i = k := by
        rcases Nat.lt_trichotomy i k with z | z | z
        · rw [k3 i z] at i2; exact absurd i2 (by decide)
        · exact z
        · rw [i3 k z] at k2; exact absurd k2 (by decide)
      rw [e]
    · rw [k1 i i1] at i2; exact absurd i2 (by decide)
  · rcases h' with ⟨k, k1, k2, k3, rfl⟩ | ⟨k1, rfl⟩
    · rw [i1 k k1] at k2; exact absurd k2 (by decide)
    · rfl
theorem puI {P : Nat → Nat} {k x j : Nat} {y : Int32} (h : y = nI (P j)) (q : Prop) [Decidable q] (hq : q ↔ j = k) : (if q then nI x else y) = nI (pu P k x j) := by
  unfold pu
  by_cases c : j = k
  · rw [if_pos c, if_pos (hq.mpr c)]
  · rw [if_neg c, if_neg (fun z => c (hq.mp z))]
    exact h
/-- a change of a trial -/
theorem X_change (F : Nat) {P S : Nat → Nat} {cc jj s d x : Nat} (u : St) (h : TP P S cc jj u) (hc : cc < 4) (hs : s < 2) (hd : d < 3) : ∃ u', pX5_change F (nI s) (nI d) (nI x) u = some ((), u') ∧ TP (pu P (8 * d + (2 * cc + s)) x) S cc jj u' ∧ eqT u u' := by
  obtain ⟨⟨h1, h2⟩, ⟨h3, h4⟩, ⟨h5, h6⟩, h7, h8, h9⟩ := h
  have q : d = 0 ∨ d = 1 ∨ d = 2 := by omega
  refine ⟨sta u (55 + d) (nI s) (nI x), ?_, ?_, fun k hk => rfl, fun k hk => sta_m _ _ _ (by omega)⟩
  · unfold pX5_change
    rcases q with rfl | rfl | rfl
    · rw [if_pos (show nI 0 = 0 from rfl), gd_i hs (by omega), vl_e]
      try rfl
    · rw [if_neg (show ¬ nI 1 = 0 by decide), if_pos (show nI 1 = 1 from rfl), gd_i hs (by omega), vl_e]
      try rfl
    · rw [if_neg (show ¬ nI 2 = 0 by decide), if_neg (show ¬ nI 2 = 1 by decide), gd_i hs (by omega), vl_e]
      try rfl
  · refine ⟨⟨?_, ?_⟩, ⟨?_, ?_⟩, ⟨?_, ?_⟩, fun m hm => ?_, ?_, ?_⟩
    · exact cellG h1 (by omega) (by omega)
    · exact cellG h2 (by omega) (by omega)
    · exact cellG h3 (by omega) (by omega)
    · exact cellG h4 (by omega) (by omega)
    · exact cellG h5 (by omega) (by omega)
    · exact cellG h6 (by omega) (by omega)
    · rw [sta_m _ _ _ (by omega)]; exact h7 m hm
    · rw [pu_n P (by omega)]; exact h8
    · rw [pu_n P (by omega)]; exact h9
theorem stg_pu (P : Nat → Nat) {k x : Nat} (hk : k < 46) (aw : Nat) : ∀ n m, stg (pu P k x) aw n m = stg P aw n m
  | 0, m => rfl
  | n + 1, m => by
    unfold stg
    rw [stg_pu P hk aw n m, pu_n P (by omega), pu_n P (by omega)]
theorem stg_pu46 (P : Nat → Nat) {k x : Nat} (hk : k < 46) (aw : Nat) : stg (pu P k x) aw (pu P k x 46) = stg P aw (P 46) := by
  funext m
  rw [pu_n P (by omega), stg_pu P hk]
def mst (d : Nat) : Nat := if d = 0 then 3 else if d = 1 then 99 else 9
theorem X_least (F : Nat) (hF : 200 ≤ F) {c jn a b s d : Nat} {P : Nat → Nat} (u : St) (hc4 : c ≤ 4) (hj3 : jn ≤ 3) (hPg : PgOK c jn P) (hX : CtX 0 c jn P u) (ha : a < c) (hb : b < jn) (hs : s < 2) (hd : d < 3) : ∃ r u', lq1 (bX6_firstThatWins_25 F (nI a) (nI s) (nI b) (nI d)) F 0 u = some (r, u') ∧ FF (fun x => wn (pu P (8 * d + (2 * a + s)) x) (stg P 0 (P 46)) a s b) (mst d + 1) r ∧ eqT u u' := by
  have hm : mst d < 100 := by unfold mst; split <;> (try split) <;> omega
  have ht : tabFLAME_BOUNDS (Int32.toNatClampNeg (nI d)) = nI (mst d) := by
    have q : d = 0 ∨ d = 1 ∨ d = 2 := by omega
    rcases q with rfl | rfl | rfl <;> decide +kernel
  refine lq1_up (n := mst d + 1) (I := fun i w => (∀ m, m < i → wn (pu P (8 * d + (2 * a + s)) m) (stg P 0 (P 46)) a s b = false) ∧ eqT u w) (Q := fun o => ∃ (r : Int32) (u' : St), o = some (r, u') ∧ FF (fun x => wn (pu P (8 * d + (2 * a + s)) x) (stg P 0 (P 46)) a s b) (mst d + 1) r ∧ eqT u u') ?_ ?_ (mst d + 1) 0 F u (by omega) (by omega) ⟨fun m hm => by omega, eqT.rf⟩
  · rintro g w ⟨h1, hw⟩
    refine ⟨-4, w, ?_, Or.inr ⟨h1, rfl⟩, hw⟩
    unfold bX6_firstThatWins_25
    rw [gd_i (by omega) (by omega), ht, if_pos (ylt (by omega) (by omega))]
  · rintro g i w hi ⟨h1, hw⟩
    have hi9 : i ≤ mst d := by omega
    obtain ⟨y, y1, y2, y3⟩ := X_prepP F (by omega) w hc4 hj3 hPg (hX.eq (by omega) hw.x) ha hb (aw := 0) (by omega)
    obtain ⟨z, z1, z2, z3⟩ := X_change F (s := s) (d := d) (x := i) y y2 (by omega) hs hd
    have hk : PgOK c jn (pu P (8 * d + (2 * a + s)) i) := by
      unfold mst at hi9
      refine hPg.put hc4 hj3 (by omega) ?_ ?_ ?_ (by omega) (by omega) (by omega) (by omega) (by omega) <;> split at hi9 <;> (try split at hi9) <;> omega
    obtain ⟨t, t1, -, t3⟩ := X_heldP F (by omega) z hk ha hb (fun m => stg_lt hPg 0 m) z2
    have hbd := hP_bd hk (stg P 0 (P 46)) ha hb
    have hrun : bX6_firstThatWins_25 F (nI a) (nI s) (nI b) (nI d) g (nI i) w = if (hP (pu P (8 * d + (2 * a + s)) i) (stg P 0 (P 46)) a b).1 = s + 1 then some (nI i, t) else g (nI (i + 1)) t := by
      unfold bX6_firstThatWins_25 pX6_prepare
      rw [gd_i (by omega) (by omega), ht, if_neg (nlt hi9 (by omega)), show (0 : Int32) = nI 0 from rfl, y1]
      simp only [bd_s]
      rw [z1, bd_s, t1, bd_s, nI_s, nI_s, ifeq (by omega) (by omega)]
    by_cases q : (hP (pu P (8 * d + (2 * a + s)) i) (stg P 0 (P 46)) a b).1 = s + 1
    · refine Or.inl ⟨nI i, t, ?_, Or.inl ⟨i, hi, decide_eq_true q, h1, rfl⟩, ((hw.tr y3).tr z3).tr t3⟩
      rw [hrun, if_pos q]
    · refine Or.inr ⟨t, ?_, fun m hm => ?_, ((hw.tr y3).tr z3).tr t3⟩
      · rw [hrun, if_neg q]
      · by_cases z : m = i
        · rw [z]; exact decide_eq_false q
        · exact h1 m (by omega)
/-- the reference's other page: a copy with one number changed -/
theorem M_other (F : Nat) (hF : 80 ≤ F) {P : Nat → Nat} (v : St) (hM : PgM 0 P v) : ∃ w, pX7_copies F 0 340 v = some ((), w) ∧ PgM 5 P w ∧ eqR v w := by
  obtain ⟨w, g1, g2, g3, g4, g5⟩ := M_copies F hF (p := 0) (q := 5) (by omega) (by omega) (by omega) v
  exact ⟨w, g1, fun k hk => (g4 k hk).trans (hM k hk), fun k hk => by rw [g2], g3, fun i hi => g5 i (by omega)⟩
theorem pg5 {P : Nat → Nat} {v : St} (h : PgM 5 P v) {k x : Nat} (hk : k < 68) : PgM 5 (pu P k x) (sta v 0 (nI (340 + k)) (nI x)) := fun j hj => by
  rw [sta_h _ _ (by omega)]
  by_cases q : j = k
  · subst q
    rw [if_pos (by omega), pu_s]
  · rw [if_neg (by omega), pu_n P q]
    exact h j hj
theorem eqR.st5 {v w : St} (h : eqR v w) {k : Nat} (hk : k < 68) (x : Int32) : eqR v (sta w 0 (nI (340 + k)) x) := ⟨fun k hk => h.1 k hk, fun k hk => by rw [sta_m _ _ _ hk]; exact h.2.1 k hk, fun i hi => by rw [sta_h _ _ (by omega), if_neg (by omega)]; exact h.2.2 i hi⟩
theorem M_least (F : Nat) (hF : 200 ≤ F) {c jn a b s d : Nat} {P : Nat → Nat} (v : St) (hc4 : c ≤ 4) (hj3 : jn ≤ 3) (hPg : PgOK c jn P) (hM : PgM 0 P v) (hE : MEnv 0 0 0 v) (ha : a < c) (hb : b < jn) (hs : s < 2) (hd : d < 3) : ∃ r v', lq1 (bX7_leastOf_21 F (nI a) (nI s) (nI b) (nI (8 * d)) (nI (mst d))) F 0 v = some (r, v') ∧ FF (fun x => wn (pu P (8 * d + (2 * a + s)) x) (stg P 0 (P 46)) a s b) (mst d + 1) r ∧ eqR v v' := by
  have hm : mst d < 100 := by unfold mst; split <;> (try split) <;> omega
  refine lq1_up (n := mst d + 1) (I := fun i w => (∀ m, m < i → wn (pu P (8 * d + (2 * a + s)) m) (stg P 0 (P 46)) a s b = false) ∧ eqR v w) (Q := fun o => ∃ (r : Int32) (v' : St), o = some (r, v') ∧ FF (fun x => wn (pu P (8 * d + (2 * a + s)) x) (stg P 0 (P 46)) a s b) (mst d + 1) r ∧ eqR v v') ?_ ?_ (mst d + 1) 0 F v (by omega) (by omega) ⟨fun m hm => by omega, eqR.rf⟩
  · rintro g w ⟨h1, hw⟩
    refine ⟨-4, w, ?_, Or.inr ⟨h1, rfl⟩, hw⟩
    unfold bX7_leastOf_21
    rw [if_pos (ylt (by omega) (by omega))]
  · rintro g i w hi ⟨h1, hw⟩
    have hi9 : i ≤ mst d := by omega
    obtain ⟨y, y1, y2, y3⟩ := M_other F (by omega) w (hw.pg hM)
    have hk : PgOK c jn (pu P (8 * d + (2 * a + s)) i) := by
      unfold mst at hi9
      refine hPg.put hc4 hj3 (by omega) ?_ ?_ ?_ (by omega) (by omega) (by omega) (by omega) (by omega) <;> split at hi9 <;> (try split at hi9) <;> omega
    have e0 := (hw.tr y3).st5 (k := 8 * d + (2 * a + s)) (by omega) (nI i)
    obtain ⟨t, t1, t2⟩ := M_isWon F (by omega) (p := 5) (sta y 0 (nI (340 + (8 * d + (2 * a + s)))) (nI i)) (by omega) (by omega) hc4 hj3 hk (pg5 y2 (k := 8 * d + (2 * a + s)) (x := i) (by omega)) (e0.env hE) ha hb hs
    rw [stm_0, stg_pu46 P (by omega)] at t1
    have hrun : bX7_leastOf_21 F (nI a) (nI s) (nI b) (nI (8 * d)) (nI (mst d)) g (nI i) w = if wn (pu P (8 * d + (2 * a + s)) i) (stg P 0 (P 46)) a s b = true then some (nI i, t) else g (nI (i + 1)) t := by
      unfold bX7_leastOf_21
      rw [if_neg (nlt hi9 (by omega)), y1, bd_s, L340, tm2, nI_add, nI_add, nI_add, gd_i (by omega) (by omega), vl_e, show 340 + 8 * d + 2 * a + s = 340 + (8 * d + (2 * a + s)) by omega, show nI 340 = nI (68 * 5) from rfl, t1, bd_s, nI_s]
      by_cases q : wn (pu P (8 * d + (2 * a + s)) i) (stg P 0 (P 46)) a s b = true
      · rw [if_pos q, if_pos q, if_neg (show ¬ (1 : Int32) = 0 by decide)]
      · rw [if_neg q, if_neg q, if_pos rfl]
    by_cases q : wn (pu P (8 * d + (2 * a + s)) i) (stg P 0 (P 46)) a s b = true
    · refine Or.inl ⟨nI i, t, ?_, Or.inl ⟨i, hi, q, h1, rfl⟩, e0.tr t2⟩
      rw [hrun, if_pos q]
    · refine Or.inr ⟨t, ?_, fun m hm => ?_, e0.tr t2⟩
      · rw [hrun, if_neg q]
      · by_cases z : m = i
        · rw [z]; exact Bool.eq_false_iff.mpr q
        · exact h1 m (by omega)
theorem step_lst {u v : St} (h : RR u v) (x0 x1 x2 : Int32) {d : Nat} (hd : d < 3) : ∃ (r : Int32) (u' v' : St), pX6_firstThatWins LF x0 x1 x2 (nI d) u = some (r, u') ∧ pX7_leastOf LF x0 x1 x2 (nI (8 * d)) (nI (mst d)) v = some (r, v') ∧ RR u' v' := by
  obtain ⟨c, jn, P, ⟨c1, c2, c3, hX, c5, c6, c7⟩, i0, i1, hs, ht, hw, htn, hsh, hc⟩ := id h
  unfold pX6_firstThatWins pX6_isFlame pX7_leastOf pX7_isHeard
  rcases two_case x0 c1 hX.1 c5 with ⟨a, a1, rfl, e, e'⟩ | ⟨e, e'⟩
  · rcases two_judge x2 c2 hX.2.1 c6 with ⟨b, b1, rfl, k, k'⟩ | ⟨k, k'⟩
    · rcases two_side x1 with ⟨s, s1, rfl, q, q'⟩ | ⟨q, q'⟩
      · simp only [e, e', k, k', q, q', bd_s, i10]
        obtain ⟨r, u', g1, g2, g3⟩ := X_least LF (by decide) u c1 c2 c3 hX a1 b1 s1 hd
        obtain ⟨r', v', m1, m2, m3⟩ := M_least LF (by decide) v c1 c2 c3 c7 (menv0 hc) a1 b1 s1 hd
        have er := g2.un m2
        subst er
        exact ⟨r, u', v', g1, m1, h.eq g3.x m3.m⟩
      · simp only [e, e', k, k', q, q', bd_s, i10, i00]
        exact ⟨_, _, _, rfl, rfl, h⟩
    · rcases two_side x1 with ⟨s, s1, rfl, q, q'⟩ | ⟨q, q'⟩
      · simp only [e, e', k, k', q, q', bd_s, i10, i00]
        exact ⟨_, _, _, rfl, rfl, h⟩
      · simp only [e, e', k, k', q, q', bd_s, i10, i00]
        exact ⟨_, _, _, rfl, rfl, h⟩
  · simp only [e, e', bd_s, i00]
    exact ⟨_, _, _, rfl, rfl, h⟩
theorem step_wax {u v : St} (h : RR u v) (x0 x1 x2 : Int32) : ∃ (r : Int32) (u' v' : St), pX6_wax LF x0 x1 x2 u = some (r, u') ∧ pX7_wax LF x0 x1 x2 v = some (r, v') ∧ RR u' v' := by
  obtain ⟨r, u', v', g, m, q⟩ := step_lst h x0 x1 x2 (d := 0) (by omega)
  refine ⟨r, u', v', ?_, ?_, q⟩
  · unfold pX6_wax
    rw [show (0 : Int32) = nI 0 from rfl, g, bd_s]
  · unfold pX7_wax
    rw [show (0 : Int32) = nI (8 * 0) from rfl, show (3 : Int32) = nI (mst 0) from rfl, m, bd_s]
theorem step_least {u v : St} (h : RR u v) (x0 x1 x2 : Int32) : ∃ (r : Int32) (u' v' : St), pX6_least LF x0 x1 x2 u = some (r, u') ∧ pX7_least LF x0 x1 x2 v = some (r, v') ∧ RR u' v' := by
  obtain ⟨r, u', v', g, m, q⟩ := step_lst h x0 x1 x2 (d := 1) (by omega)
  refine ⟨r, u', v', ?_, ?_, q⟩
  · unfold pX6_least
    rw [show (1 : Int32) = nI 1 from rfl, g, bd_s]
  · unfold pX7_least
    rw [show (8 : Int32) = nI (8 * 1) from rfl, show (99 : Int32) = nI (mst 1) from rfl, m, bd_s]
theorem step_hand {u v : St} (h : RR u v) (x0 x1 x2 : Int32) : ∃ (r : Int32) (u' v' : St), pX6_hand LF x0 x1 x2 u = some (r, u') ∧ pX7_hand LF x0 x1 x2 v = some (r, v') ∧ RR u' v' := by
  obtain ⟨r, u', v', g, m, q⟩ := step_lst h x0 x1 x2 (d := 2) (by omega)
  refine ⟨r, u', v', ?_, ?_, q⟩
  · unfold pX6_hand
    rw [show (2 : Int32) = nI 2 from rfl, g, bd_s]
  · unfold pX7_hand
    rw [show (16 : Int32) = nI (8 * 2) from rfl, show (9 : Int32) = nI (mst 2) from rfl, m, bd_s]
end
section
/-! PURE: turn -/
def al (f : Nat → Bool) : Nat → Bool
  | 0 => true
  | n + 1 => al f n && f n
theorem al_t {f : Nat → Bool} : ∀ {n : Nat}, al f n = true → ∀ i, i < n → f i = true
  | 0, _, i, hi => by omega
  | n + 1, h, i, hi => by
    unfold al at h
    rw [Bool.and_eq_true] at h
    by_cases q : i = n
    · rw [q]; exact h.2
    · exact al_t h.1 i (by omega)
theorem al_f {f : Nat → Bool} : ∀ {n : Nat} {i : Nat}, i < n → f i = false → al f n = false
  | 0, i, hi, _ => by omega
  | n + 1, i, hi, h => by
    unfold al
    by_cases q : i = n
    · rw [← q, h, Bool.and_false]
    · rw [al_f (show i < n by omega) h, Bool.false_and]
theorem al_c {f g : Nat → Bool} : ∀ n, (∀ i, i < n → f i = g i) → al f n = al g n
  | 0, _ => rfl
  | n + 1, h => by
    unfold al
    rw [h n (by omega), al_c n (fun i hi => h i (by omega))]
theorem X_blowP (F : Nat) {c jn cc jj mi s : Nat} {P : Nat → Nat} (u : St) (hPg : PgOK c jn P) (h : TP P (stg P 0 (P 46)) cc jj u) (hm : mi < 21) (hs : s < 1000) : ∃ u', pX5_blows F (nI mi) (nI s) u = some ((), u') ∧ TP P (stm P 0 mi s (P 46)) cc jj u' ∧ eqT u u' := by
  obtain ⟨h1, h3, h5, h7, h8, h9⟩ := h
  refine ⟨sta u 58 (nI mi) (nI (max (stg P 0 (P 46) mi) s)), X_blows F u hm hs (stg_lt hPg 0 mi) (h7 mi hm), ⟨?_, ?_, ?_, fun m hm' => ?_, h8, h9⟩, fun k hk => rfl, fun k hk => sta_m _ _ _ (by omega)⟩
  · rw [sta_m _ _ _ (by omega)]; exact h1
  · rw [sta_m _ _ _ (by omega)]; exact h3
  · rw [sta_m _ _ _ (by omega)]; exact h5
  · rw [sta_h _ _ (by omega)]
    unfold stm
    by_cases q : m = mi
    · rw [if_pos q, if_pos q.symm, q, Nat.max_comm]
    · rw [if_neg q, if_neg (fun z => q z.symm), Nat.max_eq_right (by omega)]
      exact h7 m hm'
theorem stm_lt {c jn : Nat} {P : Nat → Nat} (h : PgOK c jn P) (aw mm : Nat) {ms : Nat} (hms : ms < 1000) (m : Nat) : stm P aw mm ms (P 46) m < 1000 := by
  have := stg_lt h aw m
  unfold stm
  split
  · rw [Nat.max_def]; split <;> omega
  · rw [Nat.max_def]; split <;> omega
/-- the verdict turns -/
def tn (P : Nat → Nat) (a b s m : Nat) : Bool := decide (¬ (hP P (stm P 0 m s (P 46)) a b).1 = (hP P (stg P 0 (P 46)) a b).1)
theorem X_turn (F : Nat) (hF : 200 ≤ F) {c jn a b s : Nat} {P : Nat → Nat} (u : St) (hc4 : c ≤ 4) (hj3 : jn ≤ 3) (hPg : PgOK c jn P) (hX : CtX 0 c jn P u) (ha : a < c) (hb : b < jn) (hs : s ≤ 9) : ∃ r u', lq1 (bX6_turn_47 F (nI a) (nI b) (nI s) (nI (hP P (stg P 0 (P 46)) a b).1)) F 0 u = some (r, u') ∧ FF (tn P a b s) 21 r ∧ eqT u u' := by
  have hb0 := hP_bd hPg (stg P 0 (P 46)) ha hb
  refine lq1_up (n := 21) (I := fun i w => (∀ m, m < i → tn P a b s m = false) ∧ eqT u w) (Q := fun o => ∃ (r : Int32) (u' : St), o = some (r, u') ∧ FF (tn P a b s) 21 r ∧ eqT u u') ?_ ?_ 21 0 F u (by omega) (by omega) ⟨fun m hm => by omega, eqT.rf⟩
  · rintro g w ⟨h1, hw⟩
    refine ⟨-4, w, ?_, Or.inr ⟨h1, rfl⟩, hw⟩
    unfold bX6_turn_47
    rw [if_pos (show (20 : Int32) < nI 21 by decide)]
  · rintro g i w hi ⟨h1, hw⟩
    obtain ⟨y, y1, y2, y3⟩ := X_prepP F (by omega) w hc4 hj3 hPg (hX.eq (by omega) hw.x) ha hb (aw := 0) (by omega)
    obtain ⟨z, z1, z2, z3⟩ := X_blowP F (s := s) y hPg y2 hi (by omega)
    obtain ⟨t, t1, -, t3⟩ := X_heldP F (by omega) (S := stm P 0 i s (P 46)) z hPg ha hb (fun m => stm_lt hPg 0 i (by omega) m) z2
    have hbd := hP_bd hPg (stm P 0 i s (P 46)) ha hb
    have hrun : bX6_turn_47 F (nI a) (nI b) (nI s) (nI (hP P (stg P 0 (P 46)) a b).1) g (nI i) w = if (hP P (stm P 0 i s (P 46)) a b).1 = (hP P (stg P 0 (P 46)) a b).1 then g (nI (i + 1)) t else some (nI i, t) := by
      unfold bX6_turn_47 pX6_prepare
      rw [if_neg (show ¬ (20 : Int32) < nI i from by rw [L20]; exact nlt (by omega) (by omega)), show (0 : Int32) = nI 0 from rfl, y1]
      simp only [bd_s]
      rw [z1, bd_s, t1, bd_s, nI_s, ifeq (by omega) (by omega)]
    by_cases q : (hP P (stm P 0 i s (P 46)) a b).1 = (hP P (stg P 0 (P 46)) a b).1
    · refine Or.inr ⟨t, ?_, fun m hm => ?_, ((hw.tr y3).tr z3).tr t3⟩
      · rw [hrun, if_pos q]
      · by_cases z : m = i
        · rw [z]; exact decide_eq_false (fun n => n q)
        · exact h1 m (by omega)
    · refine Or.inl ⟨nI i, t, ?_, Or.inl ⟨i, hi, decide_eq_true q, h1, rfl⟩, ((hw.tr y3).tr z3).tr t3⟩
      rw [hrun, if_neg q]
def eqS (v v' : St) : Prop := (∀ k, k ≠ 16 → k ≠ 17 → k ≠ 18 → v'.1 k = v.1 k) ∧ (∀ k, k ≠ 0 → v'.2 k = v.2 k) ∧ ∀ i, (i < 272 ∨ 408 ≤ i) → v'.2 0 i = v.2 0 i
theorem M_turn (F : Nat) (hF : 200 ≤ F) {c jn a b s : Nat} {P : Nat → Nat} (v : St) (hc4 : c ≤ 4) (hj3 : jn ≤ 3) (hPg : PgOK c jn P) (hM : PgM 0 P v) (hE : MEnv 0 0 0 v) (ha : a < c) (hb : b < jn) (hs : s ≤ 9) : ∃ r v', lq2 (bX7_turn_39 F (nI a) (nI b) (nI s) (nI (hP P (stg P 0 (P 46)) a b).1) (jX7_turn_91 F)) F (-4) 0 v = some (r, v') ∧ FF (tn P a b s) 21 r ∧ eqM v v' := by
  have hb0 := hP_bd hPg (stg P 0 (P 46)) ha hb
  obtain ⟨e1, e2, e3, e4, e5, e6, e7⟩ := hE
  have fin : ∀ x w, FF (tn P a b s) 21 x → eqS v w → ∃ r v', jX7_turn_91 F x w = some (r, v') ∧ FF (tn P a b s) 21 r ∧ eqM v v' := fun x w hx hw => by
    refine ⟨x, stf w 17 0, rfl, hx, fun i hi => hw.2.2 i (by omega), ⟨?_, ?_, ?_, ?_, ?_, ?_, ?_, ?_⟩, fun k hk => hw.2.1 k (by omega)⟩
    · rw [stf_1, if_neg (by omega)]; exact hw.1 0 (by omega) (by omega) (by omega)
    · rw [stf_1, if_neg (by omega)]; exact hw.1 1 (by omega) (by omega) (by omega)
    · rw [stf_1, if_neg (by omega)]; exact hw.1 7 (by omega) (by omega) (by omega)
    · rw [stf_1, if_neg (by omega)]; exact hw.1 8 (by omega) (by omega) (by omega)
    · rw [stf_1, if_neg (by omega)]; exact hw.1 15 (by omega) (by omega) (by omega)
    · rw [stf_1, if_pos rfl, e4]; rfl
    · rw [stf_1, if_neg (by omega)]; exact hw.1 21 (by omega) (by omega) (by omega)
    · rw [stf_1, if_neg (by omega)]; exact hw.1 22 (by omega) (by omega) (by omega)
  refine lq2_up (n := 21) (I := fun i x w => FF (tn P a b s) i x ∧ eqS v w) (Q := fun o => ∃ (r : Int32) (v' : St), o = some (r, v') ∧ FF (tn P a b s) 21 r ∧ eqM v v') ?_ ?_ 21 0 F (-4) v (by omega) (by omega) ⟨Or.inr ⟨fun m hm => by omega, rfl⟩, fun _ _ _ _ => rfl, fun _ _ => rfl, fun _ _ => rfl⟩
  · rintro g x w ⟨h1, hw⟩
    unfold bX7_turn_39
    rw [if_pos (show (20 : Int32) < nI 21 by decide)]
    exact fin x w h1 hw
  · rintro g i x w hi ⟨h1, hw⟩
    rcases h1 with ⟨m, m1, m2, m3, rfl⟩ | ⟨h1, rfl⟩
    · refine Or.inl ?_
      unfold bX7_turn_39
      rw [if_neg (show ¬ (20 : Int32) < nI i from by rw [L20]; exact nlt (by omega) (by omega)), if_neg (m4_lt (by omega)).2.1]
      exact fin _ w (Or.inl ⟨m, by omega, m2, m3, rfl⟩) hw
    · have y2 : PgM 0 P (stf (stf w 16 (nI i)) 17 (nI s)) := fun k hk => (hw.2.2 _ (by omega)).trans (hM k hk)
      have y3 : MEnv 0 i s (stf (stf w 16 (nI i)) 17 (nI s)) := ⟨by omega, (hw.1 15 (by omega) (by omega) (by omega)).trans e2, Or.inr rfl, rfl, by omega, by omega, (hw.2.1 1 (by omega)).trans e7⟩
      obtain ⟨t, t1, t2⟩ := M_triesP F (by omega) (p := 0) (stf (stf w 16 (nI i)) 17 (nI s)) (by omega) (by omega) hc4 hj3 hPg y2 y3 ha hb
      have hbd := hP_bd hPg (stm P 0 i s (P 46)) ha hb
      have ht : eqS v t := ⟨fun k h1 h2 h3 => by rw [t2.1 k h3, stf_1, if_neg h2, stf_1, if_neg h1, hw.1 k h1 h2 h3], fun k hk => (t2.2.1 k hk).trans (hw.2.1 k hk), fun k hk => (t2.2.2 k hk).trans (hw.2.2 k hk)⟩
      have t1' : pX7_tries F 0 (nI a) (nI b) (stf (stf w 16 (nI i)) 17 (nI s)) = some (nI (hP P (stm P 0 i s (P 46)) a b).1, t) := t1
      have hrun : bX7_turn_39 F (nI a) (nI b) (nI s) (nI (hP P (stg P 0 (P 46)) a b).1) (jX7_turn_91 F) g (-4) (nI i) w = if (hP P (stm P 0 i s (P 46)) a b).1 = (hP P (stg P 0 (P 46)) a b).1 then g (-4) (nI (i + 1)) t else g (nI i) (nI (i + 1)) t := by
        unfold bX7_turn_39
        rw [if_neg (show ¬ (20 : Int32) < nI i from by rw [L20]; exact nlt (by omega) (by omega)), if_pos rfl, vl_e, vl_e, t1', bd_s, nI_s]
        simp only [jn_e]
        rw [ifeq (by omega) (by omega)]
      by_cases q : (hP P (stm P 0 i s (P 46)) a b).1 = (hP P (stg P 0 (P 46)) a b).1
      · refine Or.inr ⟨-4, t, ?_, Or.inr ⟨fun m hm => ?_, rfl⟩, ht⟩
        · rw [hrun, if_pos q]
        · by_cases z : m = i
          · rw [z]; exact decide_eq_false (fun n => n q)
          · exact h1 m (by omega)
      · refine Or.inr ⟨nI i, t, ?_, Or.inl ⟨i, by omega, decide_eq_true q, h1, rfl⟩, ht⟩
        rw [hrun, if_neg q]
theorem st_turn (F : Nat) (hLF : 200 ≤ F) {u v : St} (h : RR u v) (x0 x1 x2 : Int32) : ∃ (r : Int32) (u' v' : St), pX6_turn F x0 x1 x2 u = some (r, u') ∧ pX7_turn F x0 x1 x2 v = some (r, v') ∧ RR u' v' := by
  obtain ⟨c, jn, P, ⟨c1, c2, c3, hX, c5, c6, c7⟩, i0, i1, hs, ht, hw, htn, hsh, hc⟩ := id h
  unfold pX6_turn pX7_turn pX7_isHeard
  rcases two_case x0 c1 hX.1 c5 with ⟨a, a1, rfl, e, e'⟩ | ⟨e, e'⟩
  · rcases two_judge x1 c2 hX.2.1 c6 with ⟨b, b1, rfl, k, k'⟩ | ⟨k, k'⟩
    · rcases rng x2 (a0 := 1) (b0 := 9) (a1 := 1) (b1 := 9) 1 9 rfl rfl rfl rfl (by omega) (by omega) with ⟨s, s1, s2, rfl, q, q'⟩ | ⟨-, q, q'⟩
      · simp only [e, e', k, k', q, q', bd_s, i10, jn_e]
        obtain ⟨u1, g1, g2⟩ := X_nowP F (by omega) u c1 c2 c3 hX a1 b1
        obtain ⟨v1, m1, m2⟩ := M_tries0 F (by omega) v c1 c2 c3 c7 (menv0 hc) a1 b1
        obtain ⟨r, u', p1, p2, p3⟩ := X_turn F hLF (s := s) u1 c1 c2 c3 (hX.eq (by omega) g2.x) a1 b1 (by omega)
        obtain ⟨r', v', n1, n2, n3⟩ := M_turn F hLF (s := s) v1 c1 c2 c3 (m2.pg c7) (m2.env (menv0 hc)) a1 b1 (by omega)
        have er := p2.un n2
        subst er
        rw [g1, m1, bd_s, bd_s]
        exact ⟨r, u', v', p1, n1, h.eq (g2.tr p3).x (m2.m.tr n3)⟩
      · simp only [e, e', k, k', q, q', bd_s, i10, i00]
        exact ⟨_, _, _, rfl, rfl, h⟩
    · simp only [e, e', k, k', bd_s, i10, i00]
      exact ⟨_, _, _, rfl, rfl, h⟩
  · simp only [e, e', bd_s, i00]
    exact ⟨_, _, _, rfl, rfl, h⟩
theorem step_turn {u v : St} (h : RR u v) (x0 x1 x2 : Int32) : ∃ (r : Int32) (u' v' : St), pX6_turn LF x0 x1 x2 u = some (r, u') ∧ pX7_turn LF x0 x1 x2 v = some (r, v') ∧ RR u' v' := st_turn LF (by decide) h x0 x1 x2
/-! sure, rest: the table of guards -/
def gP (P : Nat → Nat) (a x y : Nat) : Nat → Nat := pu (pu P (16 + 2 * a) x) (16 + (2 * a + 1)) y
def gG (P : Nat → Nat) (a b x y : Nat) : Nat := (hP (gP P a x y) (stg P 0 (P 46)) a b).1
theorem gP_ok {c jn a x y : Nat} {P : Nat → Nat} (h : PgOK c jn P) (hc : c ≤ 4) (hj : jn ≤ 3) (ha : a < c) (hx : x ≤ 9) (hy : y ≤ 9) : PgOK c jn (gP P a x y) := (h.put hc hj (by omega) (by omega) (by omega) (by omega) (by omega) (by omega) (by omega) (by omega) (by omega)).put hc hj (by omega) (by omega) (by omega) (by omega) (by omega) (by omega) (by omega) (by omega) (by omega)
theorem gG_bd {c jn a b x y : Nat} {P : Nat → Nat} (h : PgOK c jn P) (hc : c ≤ 4) (hj : jn ≤ 3) (ha : a < c) (hb : b < jn) (hx : x ≤ 9) (hy : y ≤ 9) : 1 ≤ gG P a b x y ∧ gG P a b x y ≤ 3 := by
  have := hP_bd (gP_ok h hc hj ha hx hy) (stg P 0 (P 46)) ha hb
  exact ⟨this.1, this.2.1⟩
theorem dv10 : ∀ k, k < 100 → nI k / 10 = nI (k / 10) ∧ irm (nI k) 10 = nI (k % 10) := by decide +kernel
theorem nz10 : nz 10 = true := by decide +kernel
def eqF (u u' : St) : Prop := (∀ k, (k < 24 ∨ 26 < k) → u'.1 k = u.1 k) ∧ ∀ k, k ≠ 52 → (k < 55 ∨ 58 < k) → u'.2 k = u.2 k
theorem eqF.x {u u' : St} (h : eqF u u') : eqX u u' := ⟨fun k q => h.1 k (by omega), fun k q => h.2 k (by omega) (by omega)⟩
theorem X_fill (F : Nat) (hF : 200 ≤ F) {c jn a b : Nat} {P : Nat → Nat} (u : St) (hc4 : c ≤ 4) (hj3 : jn ≤ 3) (hPg : PgOK c jn P) (hX : CtX 0 c jn P u) (ha : a < c) (hb : b < jn) : ∃ u', pX6_fillVerdictsByGuards F (nI a) (nI b) u = some ((), u') ∧ (∀ k, k < 100 → u'.2 52 k = nI (gG P a b (k / 10) (k % 10))) ∧ eqF u u' := by
  unfold pX6_fillVerdictsByGuards
  refine lq1_up (n := 100) (I := fun i w => (∀ k, k < i → w.2 52 k = nI (gG P a b (k / 10) (k % 10))) ∧ eqF u w) (Q := fun o => ∃ u' : St, o = some ((), u') ∧ (∀ k, k < 100 → u'.2 52 k = nI (gG P a b (k / 10) (k % 10))) ∧ eqF u u') ?_ ?_ 100 0 F u (by omega) (by omega) ⟨fun m hm => by omega, fun _ _ => rfl, fun _ _ _ => rfl⟩
  · rintro g w ⟨h1, hw⟩
    refine ⟨w, ?_, h1, hw⟩
    unfold bX6_fillVerdictsByGuards_2
    rw [if_pos (show (100 : Int32) ≤ nI 100 by decide)]
  · rintro g i w hi ⟨h1, hw⟩
    obtain ⟨y, y1, y2, y3⟩ := X_prepP F (by omega) w hc4 hj3 hPg (hX.eq (by omega) hw.x) ha hb (aw := 0) (by omega)
    obtain ⟨z, z1, z2, z3⟩ := X_change F (s := 0) (d := 2) (x := i / 10) y y2 (by omega) (by omega) (by omega)
    obtain ⟨z', z1', z2', z3'⟩ := X_change F (s := 1) (d := 2) (x := i % 10) z z2 (by omega) (by omega) (by omega)
    have hk : PgOK c jn (gP P a (i / 10) (i % 10)) := gP_ok hPg hc4 hj3 ha (by omega) (by omega)
    have z2'' : TP (gP P a (i / 10) (i % 10)) (stg P 0 (P 46)) a b z' := z2'
    obtain ⟨t, t1, -, t3⟩ := X_heldP F (by omega) z' hk ha hb (fun m => stg_lt hPg 0 m) z2''
    have e4 : eqT w t := ((y3.tr z3).tr z3').tr t3
    refine Or.inr ⟨sta t 52 (nI i) (nI (gG P a b (i / 10) (i % 10))), ?_, fun k hk => ?_, fun k hk => (e4.1 k hk).trans (hw.1 k hk), fun k h1 h2 => by rw [sta_m _ _ _ h1, e4.2 k h2, hw.2 k h1 h2]⟩
    · obtain ⟨d1, d2⟩ := dv10 i hi
      unfold bX6_fillVerdictsByGuards_2 pX6_prepare
      rw [if_neg (show ¬ (100 : Int32) ≤ nI i from by rw [L100]; exact nle hi (by omega)), d1, d2, nz10, nI_s]
      simp only [gd_true]
      have y1' : pX5_prepare F (nI a) (nI b) 0 w = some ((), y) := y1
      have w1 : pX5_change F 0 2 (nI (i / 10)) y = some ((), z) := z1
      have w2 : pX5_change F 1 2 (nI (i % 10)) z = some ((), z') := z1'
      rw [y1']
      simp only [bd_s]
      rw [w1, bd_s, w2, bd_s, t1, bd_s, gd_i hi (by omega), vl_e]
      rfl
    · rw [sta_h _ _ (by omega)]
      by_cases q : k = i
      · rw [if_pos q, q]
      · rw [if_neg q, e4.2 52 (by omega)]; exact h1 k (by omega)
/-- wins whatever the other's hand is -/
def ww (P : Nat → Nat) (a b s x : Nat) : Bool := al (fun o => decide (gG P a b (if s = 0 then x else o) (if s = 0 then o else x) = s + 1)) 10
theorem X_wins (F : Nat) (hF : 80 ≤ F) {c jn a b s x : Nat} {P : Nat → Nat} (w : St) (hc4 : c ≤ 4) (hj3 : jn ≤ 3) (hPg : PgOK c jn P) (ha : a < c) (hb : b < jn) (ht : ∀ k, k < 100 → w.2 52 k = nI (gG P a b (k / 10) (k % 10))) (hs : s < 2) (hx : x < 10) : pX6_winsWhateverTheOther F (nI s) (nI x) w = some (if ww P a b s x = true then 1 else 0, w) := by
  unfold pX6_winsWhateverTheOther
  refine lq1_up (n := 10) (I := fun i y => y = w ∧ ∀ o, o < i → decide (gG P a b (if s = 0 then x else o) (if s = 0 then o else x) = s + 1) = true) (Q := fun o => o = some (if ww P a b s x = true then 1 else 0, w)) ?_ ?_ 10 0 F w (by omega) (by omega) ⟨rfl, fun o ho => by omega⟩
  · rintro g y ⟨rfl, h1⟩
    unfold bX6_winsWhateverTheOther_2
    have e : ww P a b s x = true := by
      unfold ww
      rcases hq : al (fun o => decide (gG P a b (if s = 0 then x else o) (if s = 0 then o else x) = s + 1)) 10 with _ | _
      · exfalso
        have k : ∀ n, n ≤ 10 → al (fun o => decide (gG P a b (if s = 0 then x else o) (if s = 0 then o else x) = s + 1)) n = true := fun n hn => by
          induction n with
          | zero => rfl
          | succ n ih =>
            unfold al
            rw [ih (by omega), h1 n (by omega)]
            rfl
        rw [k 10 (by omega)] at hq
        exact absurd hq (by decide)
      · rfl
    rw [if_pos (show (10 : Int32) ≤ nI 10 by decide), if_pos e]
  · rintro g i y hi ⟨rfl, h1⟩
    have hv : ∀ k, k = (if s = 0 then 10 * x + i else 10 * i + x) → y.2 52 k = nI (gG P a b (if s = 0 then x else i) (if s = 0 then i else x)) := fun k hk => by
      by_cases q : s = 0
      · rw [if_pos q] at hk
        rw [ht k (by omega), if_pos q, if_pos q, show k / 10 = x by omega, show k % 10 = i by omega]
      · rw [if_neg q] at hk
        rw [ht k (by omega), if_neg q, if_neg q, show k / 10 = i by omega, show k % 10 = x by omega]
    have hrun : bX6_winsWhateverTheOther_2 F (nI s) (nI x) g (nI i) y = if gG P a b (if s = 0 then x else i) (if s = 0 then i else x) = s + 1 then g (nI (i + 1)) y else some (0, y) := by
      have hb' := gG_bd hPg hc4 hj3 ha hb (x := if s = 0 then x else i) (y := if s = 0 then i else x) (by split <;> omega) (by split <;> omega)
      unfold bX6_winsWhateverTheOther_2
      rw [if_neg (show ¬ (10 : Int32) ≤ nI i from by rw [L10]; exact nle hi (by omega))]
      simp only [jn_e, tm10, nI_add, nI_s]
      by_cases q : s = 0
      · have hv' := hv _ rfl
        rw [if_pos q] at hv'
        rw [if_pos (show nI s = 0 by rw [q]; rfl), gd_i (by omega) (by omega), cl (by omega), hv', ifeq (by omega) (by omega)]
      · have hv' := hv _ rfl
        rw [if_neg q] at hv'
        rw [if_neg (n0f q (by omega)), gd_i (by omega) (by omega), cl (by omega), hv', ifeq (by omega) (by omega)]
    by_cases q : gG P a b (if s = 0 then x else i) (if s = 0 then i else x) = s + 1
    · refine Or.inr ⟨y, by rw [hrun, if_pos q], rfl, fun o ho => ?_⟩
      by_cases z : o = i
      · rw [z]; exact decide_eq_true q
      · exact h1 o (by omega)
    · refine Or.inl ?_
      have e : ww P a b s x = false := al_f hi (decide_eq_false q)
      rw [hrun, if_neg q, e, if_neg (by decide)]
theorem M_guards (F : Nat) (hF : 80 ≤ F) {c jn a b x y : Nat} {P : Nat → Nat} (v : St) (hc4 : c ≤ 4) (hj3 : jn ≤ 3) (hPg : PgOK c jn P) (hM : PgM 0 P v) (hE : MEnv 0 0 0 v) (ha : a < c) (hb : b < jn) (hx : x ≤ 9) (hy : y ≤ 9) : ∃ v', pX7_byGuards F (nI a) (nI b) (nI x) (nI y) v = some (nI (gG P a b x y), v') ∧ eqR v v' := by
  obtain ⟨w, w1, w2, w3⟩ := M_other F hF v hM
  have e0 := (w3.st5 (k := 16 + 2 * a) (by omega) (nI x)).st5 (k := 16 + (2 * a + 1)) (by omega) (nI y)
  have m0 := pg5 (pg5 w2 (k := 16 + 2 * a) (x := x) (by omega)) (k := 16 + (2 * a + 1)) (x := y) (by omega)
  have m0' : PgM 5 (gP P a x y) (sta (sta w 0 (nI (340 + (16 + 2 * a))) (nI x)) 0 (nI (340 + (16 + (2 * a + 1)))) (nI y)) := m0
  obtain ⟨t, t1, t2⟩ := M_triesP F hF (p := 5) _ (by omega) (by omega) hc4 hj3 (gP_ok hPg hc4 hj3 ha hx hy) m0' (e0.env hE) ha hb
  have es : stm (gP P a x y) 0 0 0 (gP P a x y 46) = stg P 0 (P 46) := by
    rw [stm_0]
    unfold gP
    rw [stg_pu46 _ (by omega), stg_pu46 _ (by omega)]
  rw [es] at t1
  refine ⟨t, ?_, e0.tr t2⟩
  unfold pX7_byGuards
  rw [w1, bd_s, tm2, show (356 : Int32) = nI 356 from rfl, nI_add, nI_s, gd_i (by omega) (by omega), vl_e, gd_i (by omega) (by omega), vl_e, show 356 + 2 * a = 340 + (16 + 2 * a) by omega, show 340 + (16 + 2 * a) + 1 = 340 + (16 + (2 * a + 1)) by omega, show (340 : Int32) = nI (68 * 5) from rfl, t1]
  rfl
theorem st_sure (F : Nat) (hLF : 200 ≤ F) {u v : St} (h : RR u v) (x0 x1 x2 : Int32) : ∃ (r : Int32) (u' v' : St), pX6_sure F x0 x1 x2 u = some (r, u') ∧ pX7_sure F x0 x1 x2 v = some (r, v') ∧ RR u' v' := by
  obtain ⟨c, jn, P, ⟨c1, c2, c3, hX, c5, c6, c7⟩, i0, i1, hs, ht, hw, htn, hsh, hc⟩ := id h
  unfold pX6_sure pX6_isFlame pX7_sure pX7_isHeard
  rcases two_case x0 c1 hX.1 c5 with ⟨a, a1, rfl, e, e'⟩ | ⟨e, e'⟩
  · rcases two_judge x2 c2 hX.2.1 c6 with ⟨b, b1, rfl, k, k'⟩ | ⟨k, k'⟩
    · rcases two_side x1 with ⟨s, s1, rfl, q, q'⟩ | ⟨q, q'⟩
      · simp only [e, e', k, k', q, q', bd_s, i10]
        obtain ⟨u1, g1, g2, g3⟩ := X_fill F hLF u c1 c2 c3 hX a1 b1
        have pX : ∃ r, lq1 (bX6_sure_31 F (nI s)) F 0 u1 = some (r, u1) ∧ FF (ww P a b s) 10 r := by
          refine lq1_up (n := 10) (I := fun i y => y = u1 ∧ ∀ o, o < i → ww P a b s o = false) (Q := fun o => ∃ r : Int32, o = some (r, u1) ∧ FF (ww P a b s) 10 r) ?_ ?_ 10 0 F u1 (by omega) (by omega) ⟨rfl, fun o ho => by omega⟩
          · rintro g y ⟨rfl, h1⟩
            refine ⟨-4, ?_, Or.inr ⟨h1, rfl⟩⟩
            unfold bX6_sure_31
            rw [if_pos (show (10 : Int32) ≤ nI 10 by decide)]
          · rintro g i y hi ⟨rfl, h1⟩
            have hr := X_wins F (by omega) y c1 c2 c3 a1 b1 g2 s1 hi
            have hrun : bX6_sure_31 F (nI s) g (nI i) y = if ww P a b s i = true then some (nI i, y) else g (nI (i + 1)) y := by
              unfold bX6_sure_31
              rw [if_neg (show ¬ (10 : Int32) ≤ nI i from by rw [L10]; exact nle hi (by omega)), hr, bd_s, nI_s]
              by_cases z : ww P a b s i = true
              · rw [if_pos z, if_pos z, if_neg (by decide)]
              · rw [if_neg z, if_neg z, if_pos rfl]
            by_cases z : ww P a b s i = true
            · exact Or.inl ⟨nI i, by rw [hrun, if_pos z], Or.inl ⟨i, hi, z, h1, rfl⟩⟩
            · refine Or.inr ⟨y, by rw [hrun, if_neg z], rfl, fun o ho => ?_⟩
              by_cases t : o = i
              · rw [t]; exact Bool.eq_false_iff.mpr z
              · exact h1 o (by omega)
        have pM : ∃ r v', lq1 (bX7_sure_21 F (nI a) (nI s) (nI b)) F 0 v = some (r, v') ∧ FF (ww P a b s) 10 r ∧ eqR v v' := by
          refine lq1_up (n := 10) (I := fun i y => eqR v y ∧ ∀ o, o < i → ww P a b s o = false) (Q := fun o => ∃ (r : Int32) (v' : St), o = some (r, v') ∧ FF (ww P a b s) 10 r ∧ eqR v v') ?_ ?_ 10 0 F v (by omega) (by omega) ⟨eqR.rf, fun o ho => by omega⟩
          · rintro g y ⟨hy, h1⟩
            refine ⟨-4, y, ?_, Or.inr ⟨h1, rfl⟩, hy⟩
            unfold bX7_sure_21
            rw [if_pos (show (9 : Int32) < nI 10 by decide)]
          · rintro g i y hi ⟨hy, h1⟩
            have inner : ∃ y', lq2 (bX7_sure_34 F (nI a) (nI s) (nI b) (nI i) (jX7_sure_93 F (nI i) g)) F 1 0 y = jX7_sure_93 F (nI i) g (if ww P a b s i = true then 1 else 0) y' ∧ eqR v y' := by
              refine lq2_up (n := 10) (I := fun o x t => x = (if al (fun o => decide (gG P a b (if s = 0 then i else o) (if s = 0 then o else i) = s + 1)) o = true then 1 else 0) ∧ eqR v t) (Q := fun o => ∃ y' : St, o = jX7_sure_93 F (nI i) g (if ww P a b s i = true then 1 else 0) y' ∧ eqR v y') ?_ ?_ 10 0 F 1 y (by omega) (by omega) ⟨rfl, hy⟩
              · rintro g' x t ⟨rfl, h3⟩
                refine ⟨t, ?_, h3⟩
                unfold bX7_sure_34
                rw [if_pos (show (9 : Int32) < nI 10 by decide)]
                rfl
              · rintro g' o x t ho ⟨rfl, h3⟩
                rcases hq : al (fun o => decide (gG P a b (if s = 0 then i else o) (if s = 0 then o else i) = s + 1)) o with _ | _
                · refine Or.inr ⟨0, t, ?_, ?_, h3⟩
                  · unfold bX7_sure_34
                    rw [if_neg (show ¬ (9 : Int32) < nI o from by rw [L9]; exact nlt (by omega) (by omega)), if_neg (by decide), nI_s]
                    simp only [jn_e, if_true]
                  · unfold al
                    rw [hq, Bool.false_and, if_neg (by decide)]
                · have bx : (if s = 0 then i else o) ≤ 9 := by split <;> omega
                  have by' : (if s = 0 then o else i) ≤ 9 := by split <;> omega
                  obtain ⟨t', t1, t2⟩ := M_guards F (by omega) t c1 c2 c3 (h3.pg c7) (h3.env (menv0 hc)) a1 b1 bx by'
                  have hb' := gG_bd c3 c1 c2 a1 b1 bx by'
                  have hrun : bX7_sure_34 F (nI a) (nI s) (nI b) (nI i) (jX7_sure_93 F (nI i) g) g' 1 (nI o) t = g' (if gG P a b (if s = 0 then i else o) (if s = 0 then o else i) = s + 1 then 1 else 0) (nI (o + 1)) t' := by
                    unfold bX7_sure_34
                    rw [if_neg (show ¬ (9 : Int32) < nI o from by rw [L9]; exact nlt (by omega) (by omega)), nI_s, nI_s]
                    simp only [jn_e, i10]
                    by_cases z : s = 0
                    · simp only [if_pos z] at t1 hb' ⊢
                      have z' : nI s = 0 := by rw [z]; rfl
                      simp only [if_pos z', t1, bd_s]
                      rw [ifeq (by omega) (by omega)]
                      split <;> rfl
                    · simp only [if_neg z] at t1 hb' ⊢
                      simp only [if_neg (n0f z (show s < 2147483648 by omega)), t1, bd_s]
                      rw [ifeq (by omega) (by omega)]
                      split <;> rfl
                  refine Or.inr ⟨_, t', by rw [if_pos rfl, hrun], ?_, h3.tr t2⟩
                  unfold al
                  rw [hq, Bool.true_and]
                  by_cases z : gG P a b (if s = 0 then i else o) (if s = 0 then o else i) = s + 1
                  · rw [if_pos z, if_pos (decide_eq_true z)]
                  · rw [if_neg z, if_neg (by rw [decide_eq_false z]; decide)]
            obtain ⟨y', y1, y2⟩ := inner
            have hrun : bX7_sure_21 F (nI a) (nI s) (nI b) g (nI i) y = if ww P a b s i = true then some (nI i, y') else g (nI (i + 1)) y' := by
              unfold bX7_sure_21
              rw [if_neg (show ¬ (9 : Int32) < nI i from by rw [L9]; exact nlt (by omega) (by omega)), jn_e, y1]
              unfold jX7_sure_93
              rw [nI_s]
              by_cases z : ww P a b s i = true
              · rw [if_pos z, if_pos z, if_neg (by decide)]
              · rw [if_neg z, if_neg z, if_pos rfl]
            by_cases z : ww P a b s i = true
            · exact Or.inl ⟨nI i, y', by rw [hrun, if_pos z], Or.inl ⟨i, hi, z, h1, rfl⟩, y2⟩
            · refine Or.inr ⟨y', by rw [hrun, if_neg z], y2, fun o ho => ?_⟩
              by_cases t : o = i
              · rw [t]; exact Bool.eq_false_iff.mpr z
              · exact h1 o (by omega)
        obtain ⟨r, p1, p2⟩ := pX
        obtain ⟨r', v', n1, n2, n3⟩ := pM
        have er := p2.un n2
        subst er
        rw [g1, bd_s]
        exact ⟨r, u1, v', p1, n1, h.eq g3.x n3.m⟩
      · simp only [e, e', k, k', q, q', bd_s, i10, i00]
        exact ⟨_, _, _, rfl, rfl, h⟩
    · rcases two_side x1 with ⟨s, s1, rfl, q, q'⟩ | ⟨q, q'⟩
      · simp only [e, e', k, k', q, q', bd_s, i10, i00]
        exact ⟨_, _, _, rfl, rfl, h⟩
      · simp only [e, e', k, k', q, q', bd_s, i10, i00]
        exact ⟨_, _, _, rfl, rfl, h⟩
  · simp only [e, e', bd_s, i00]
    exact ⟨_, _, _, rfl, rfl, h⟩
theorem step_sure {u v : St} (h : RR u v) (x0 x1 x2 : Int32) : ∃ (r : Int32) (u' v' : St), pX6_sure LF x0 x1 x2 u = some (r, u') ∧ pX7_sure LF x0 x1 x2 v = some (r, v') ∧ RR u' v' := st_sure LF (by decide) h x0 x1 x2
end
