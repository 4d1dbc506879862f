section
/-! PURE: text: tokens -/
theorem lp0_up {ρ : Type} {b : (St → Option ρ) → St → Option ρ} {n : Nat} (I : Nat → St → Prop) (Q : Option ρ → Prop) (stop : ∀ s u, I n u → Q (b s u)) (step : ∀ s i u, i < n → I i u → Q (b s u) ∨ ∃ u', b s u = s u' ∧ I (i + 1) u') : ∀ (k i F : Nat) (u : St), i + k = n → k < F → I i u → Q (lp0 b F u)
  | k, i, 0, u, h1, h2, h3 => by omega
  | 0, i, F + 1, u, h1, h2, h3 => by
    have e : i = n := by omega
    subst e
    rw [lp0_s]
    exact stop _ u h3
  | k + 1, i, F + 1, u, h1, h2, h3 => by
    rw [lp0_s]
    rcases step (lp0 b F) i u (by omega) h3 with q | ⟨u', q1, q2⟩
    · exact q
    · rw [q1]
      exact lp0_up I Q stop step k (i + 1) F u' (by omega) (by omega) q2
/-- from s on, as long as q holds, up to p -/
def Run (q : Nat → Bool) (n s p : Nat) : Prop := s ≤ p ∧ p ≤ n ∧ (∀ i, s ≤ i → i < p → q i = true) ∧ (p < n → q p = false)
theorem Run_ex (q : Nat → Bool) (n : Nat) : ∀ k s, s + k = n → ∃ p, Run q n s p
  | 0, s, h => ⟨s, Nat.le_refl _, by omega, fun i h1 h2 => by omega, fun h => by omega⟩
  | k + 1, s, h => by
    rcases hq : q s with _ | _
    · exact ⟨s, Nat.le_refl _, by omega, fun i h1 h2 => by omega, fun _ => hq⟩
    · obtain ⟨p, p1, p2, p3, p4⟩ := Run_ex q n k (s + 1) (by omega)
      refine ⟨p, by omega, p2, fun i h1 h2 => ?_, p4⟩
      by_cases z : i = s
      · rw [z]; exact hq
      · exact p3 i (by omega) h2
def cls (c : Nat) : Nat := if 97 ≤ c ∧ c ≤ 122 then 1 else if 48 ≤ c ∧ c ≤ 57 then 2 else if c = 59 then 3 else 4
theorem cls_bd (c : Nat) : 1 ≤ cls c ∧ cls c ≤ 4 := by
  unfold cls
  split
  · omega
  · split
    · omega
    · split <;> omega
def TpX (b : Nat → Nat) (n : Nat) (u : St) : Prop := n ≤ 160 ∧ u.1 17 = nI n ∧ ∀ i, i < n → b i ≤ 127 ∧ u.2 54 i = nI (b i)
def TpM (b : Nat → Nat) (n : Nat) (v : St) : Prop := n ≤ 160 ∧ v.1 7 = nI n ∧ (∀ i, i < n → b i ≤ 127 ∧ v.2 3 i = nI (b i)) ∧ v.2 4 = u0M.2 4 ∧ v.2 5 = u0M.2 5
theorem X_tok (F : Nat) {c : Nat} (hc : c < 1000) (u : St) : pX2_tokenOf F (nI c) u = some (nI (cls c), u) := by
  unfold pX2_tokenOf cls
  simp only [jn_e]
  rw [show (97 : Int32) = nI 97 from rfl, show (122 : Int32) = nI 122 from rfl, show (48 : Int32) = nI 48 from rfl, show (57 : Int32) = nI 57 from rfl, show (59 : Int32) = nI 59 from rfl]
  rw [iflt (by omega) (by omega), iflt (by omega) (by omega), iflt (by omega) (by omega), iflt (by omega) (by omega), ifeq (by omega) (by omega)]
  have e1 : (97 ≤ c ∧ c ≤ 122) ↔ (¬ c < 97 ∧ ¬ 122 < c) := by omega
  have e2 : (48 ≤ c ∧ c ≤ 57) ↔ (¬ c < 48 ∧ ¬ 57 < c) := by omega
  simp only [e1, e2]
  by_cases h1 : c < 97 <;> by_cases h2 : 122 < c <;> by_cases h3 : c < 48 <;> by_cases h4 : 57 < c <;> by_cases h5 : c = 59 <;> simp only [h1, h2, h3, h4, h5, if_true, if_false, not_true_eq_false, not_false_eq_true, and_true, and_false] <;> rfl
theorem X_skip (F : Nat) (hF : 200 ≤ F) {b : Nat → Nat} {n s p : Nat} (J : St → Option (Int32 × St)) (u : St) (hT : TpX b n u) (hs : u.1 22 = nI s) (hr : Run (fun i => decide (b i = 32)) n s p) : ∃ u', lp0 (bX2_readsNext_0 F J) F u = J u' ∧ u'.1 22 = nI p ∧ (∀ k, k ≠ 22 → u'.1 k = u.1 k) ∧ u'.2 = u.2 := by
  obtain ⟨n1, n2, n3⟩ := hT
  obtain ⟨r1, r2, r3, r4⟩ := hr
  refine lp0_up (n := p - s) (I := fun i w => w.1 22 = nI (s + i) ∧ (∀ k, k ≠ 22 → w.1 k = u.1 k) ∧ w.2 = u.2) (Q := fun o => ∃ u' : St, o = J u' ∧ u'.1 22 = nI p ∧ (∀ k, k ≠ 22 → u'.1 k = u.1 k) ∧ u'.2 = u.2) ?_ ?_ (p - s) 0 F u (by omega) (by omega) ⟨hs, fun _ _ => rfl, rfl⟩
  · rintro g w ⟨w1, w2, w3⟩
    rw [show s + (p - s) = p by omega] at w1
    refine ⟨w, ?_, w1, w2, w3⟩
    unfold bX2_readsNext_0
    rw [w1, w2 17 (by omega), n2, w3]
    by_cases q : n ≤ p
    · rw [if_pos (yle q (by omega))]
    · obtain ⟨b1, b2⟩ := n3 p (by omega)
      have hq := r4 (by omega)
      rw [if_neg (nle (by omega) (by omega)), gd_i (by omega) (by omega), cl (by omega), b2, L32, if_neg (neI (of_decide_eq_false hq) (by omega) (by omega))]
  · rintro g i w hi ⟨w1, w2, w3⟩
    obtain ⟨b1, b2⟩ := n3 (s + i) (by omega)
    have hq := r3 (s + i) (by omega) (by omega)
    refine Or.inr ⟨stf w 22 (nI (s + i + 1)), ?_, rfl, fun k hk => by rw [stf_1, if_neg hk, w2 k hk], w3⟩
    unfold bX2_readsNext_0
    rw [w1, w2 17 (by omega), n2, w3, if_neg (nle (by omega) (by omega)), gd_i (by omega) (by omega), cl (by omega), b2, of_decide_eq_true hq, if_pos (show nI 32 = 32 from rfl), vl_e, nI_s]
theorem X_runT (F : Nat) (hF : 200 ≤ F) {b : Nat → Nat} {n s p t : Nat} (J : St → Option (Int32 × St)) (u : St) (hT : TpX b n u) (hs : u.1 22 = nI s) (ht : u.1 20 = nI t) (ht4 : t ≤ 4) (ht3 : t ≠ 3) (hr : Run (fun i => decide (cls (b i) = t)) n s p) : ∃ u', lp0 (bX2_readsNext_90 F J) F u = J u' ∧ u'.1 22 = nI p ∧ (∀ k, k ≠ 22 → u'.1 k = u.1 k) ∧ u'.2 = u.2 := by
  obtain ⟨n1, n2, n3⟩ := hT
  obtain ⟨r1, r2, r3, r4⟩ := hr
  refine lp0_up (n := p - s) (I := fun i w => w.1 22 = nI (s + i) ∧ (∀ k, k ≠ 22 → w.1 k = u.1 k) ∧ w.2 = u.2) (Q := fun o => ∃ u' : St, o = J u' ∧ u'.1 22 = nI p ∧ (∀ k, k ≠ 22 → u'.1 k = u.1 k) ∧ u'.2 = u.2) ?_ ?_ (p - s) 0 F u (by omega) (by omega) ⟨hs, fun _ _ => rfl, rfl⟩
  · rintro g w ⟨w1, w2, w3⟩
    rw [show s + (p - s) = p by omega] at w1
    refine ⟨w, ?_, w1, w2, w3⟩
    unfold bX2_readsNext_90
    rw [w1, w2 17 (by omega), w2 20 (by omega), n2, ht, w3, L3, if_neg (neI ht3 (by omega) (by omega))]
    by_cases q : n ≤ p
    · rw [if_pos (yle q (by omega))]
    · obtain ⟨b1, b2⟩ := n3 p (by omega)
      have hq := r4 (by omega)
      have hcb := cls_bd (b p)
      rw [if_neg (nle (by omega) (by omega)), gd_i (by omega) (by omega), cl (by omega), b2, X_tok F (by omega), bd_s, w2 20 (by omega), ht, if_neg (neI (of_decide_eq_false hq) (by omega) (by omega))]
  · rintro g i w hi ⟨w1, w2, w3⟩
    obtain ⟨b1, b2⟩ := n3 (s + i) (by omega)
    have hq := r3 (s + i) (by omega) (by omega)
    refine Or.inr ⟨stf w 22 (nI (s + i + 1)), ?_, rfl, fun k hk => by rw [stf_1, if_neg hk, w2 k hk], w3⟩
    unfold bX2_readsNext_90
    rw [w1, w2 17 (by omega), w2 20 (by omega), n2, ht, w3, L3, if_neg (neI ht3 (by omega) (by omega)), if_neg (nle (by omega) (by omega)), gd_i (by omega) (by omega), cl (by omega), b2, X_tok F (by omega), bd_s, w2 20 (by omega), ht, of_decide_eq_true hq, if_pos rfl, vl_e, w1, nI_s]
/-- the figures' value -/
def fig (b : Nat → Nat) (p : Nat) : Nat → Nat
  | 0 => 0
  | k + 1 => 10 * fig b p k + b (p + k) - 48
theorem cls2 {c : Nat} (h : cls c = 2) : 48 ≤ c ∧ c ≤ 57 := by
  unfold cls at h
  split at h
  · omega
  · split at h
    · assumption
    · split at h <;> omega
theorem X_figs (F : Nat) (hF : 200 ≤ F) {b : Nat → Nat} {n p e : Nat} (u : St) (hT : TpX b n u) (h21 : u.1 21 = nI p) (h22 : u.1 22 = nI e) (hpe : p ≤ e) (hen : e ≤ n) (hd : ∀ i, p ≤ i → i < e → cls (b i) = 2) (he : e ≤ p + 2) : pX2_figuresRead F u = some (nI (fig b p (e - p)), u) := by
  obtain ⟨n1, n2, n3⟩ := hT
  unfold pX2_figuresRead
  rw [vl_e, h21]
  refine lq2_up (n := e) (I := fun i x w => p ≤ i ∧ x = nI (fig b p (i - p)) ∧ w = u) (Q := fun o => o = some (nI (fig b p (e - p)), u)) ?_ ?_ (e - p) p F 0 u (by omega) (by omega) ⟨Nat.le_refl _, by rw [Nat.sub_self]; rfl, rfl⟩
  · rintro g x w ⟨-, rfl, rfl⟩
    unfold bX2_figuresRead_7
    rw [h22, if_pos (yle (Nat.le_refl _) (by omega))]
  · rintro g i x w hi ⟨h1, rfl, rfl⟩
    obtain ⟨b1, b2⟩ := n3 i (by omega)
    have hc := cls2 (hd i h1 hi)
    refine Or.inr ⟨nI (fig b p (i + 1 - p)), w, ?_, by omega, rfl, rfl⟩
    unfold bX2_figuresRead_7
    rw [h22, if_neg (nle hi (by omega)), gd_i (by omega) (by omega), vl_e, cl (by omega), b2, tm10, nI_add, show (48 : Int32) = nI 48 from rfl, subI (by omega), nI_s, show i + 1 - p = (i - p) + 1 by omega, fig, show p + (i - p) = i by omega]
theorem fig_lt {b : Nat → Nat} {p : Nat} : ∀ k, k ≤ 2 → (∀ i, p ≤ i → i < p + k → cls (b i) = 2) → fig b p k < 100
  | 0, _, _ => by
    unfold fig
    omega
  | 1, _, h => by
    have h0 := cls2 (h p (by omega) (by omega))
    show 10 * 0 + b (p + 0) - 48 < 100
    rw [Nat.add_zero]
    omega
  | 2, _, h => by
    have h0 := cls2 (h p (by omega) (by omega))
    have h1 := cls2 (h (p + 1) (by omega) (by omega))
    show 10 * (10 * 0 + b (p + 0) - 48) + b (p + 1) - 48 < 100
    rw [Nat.add_zero]
    omega
  | k + 3, hk, _ => by omega
/-! the reference's tokens -/
theorem M_byte (F : Nat) {b : Nat → Nat} {n i : Nat} (v : St) (hT : TpM b n v) (hi : i < n) : pX7_byteAt F (nI i) v = some (nI (b i), v) := by
  obtain ⟨n1, n2, n3, -⟩ := hT
  unfold pX7_byteAt
  rw [n2, if_neg (nle hi (by omega)), gd_i (by omega) (by omega), cl (by omega), (n3 i hi).2]
theorem M_byteN (F : Nat) {b : Nat → Nat} {n i : Nat} (v : St) (hT : TpM b n v) (hi : n ≤ i) (hi2 : i < 1000) : pX7_byteAt F (nI i) v = some (-4, v) := by
  obtain ⟨n1, n2, n3, -⟩ := hT
  unfold pX7_byteAt
  rw [n2, if_pos (yle hi (by omega))]
theorem M_inb (F : Nat) {c lo hi : Nat} (hc : c < 1000) (v : St) (hl : lo < 1000) (hh : hi < 1000) : pX7_in F (Int32.toInt64 (nI c)) (lN lo) (lN hi) v = some (b01 (lo ≤ c ∧ c ≤ hi), v) := by
  rw [M_in, tI64, tI (by omega), pk_lT (by omega), pk_lT (by omega)]
  by_cases q : lo ≤ c ∧ c ≤ hi
  · rw [b01_t q, b01_t (by omega)]
  · rw [b01_f q, b01_f (by omega)]
theorem M_inbN (F : Nat) {lo hi : Nat} (v : St) (hl : lo < 1000) (hh : hi < 1000) : pX7_in F (Int32.toInt64 (-4)) (lN lo) (lN hi) v = some (0, v) := by
  rw [M_in, tI64, pk_lT (by omega), pk_lT (by omega), b01_f (by rw [show (-4 : Int32).toInt = -4 from by decide]; omega)]
theorem l97 : (97 : Int64) = lN 97 := by decide +kernel
theorem l122 : (122 : Int64) = lN 122 := by decide +kernel
theorem l48 : (48 : Int64) = lN 48 := by decide +kernel
theorem l57 : (57 : Int64) = lN 57 := by decide +kernel
/-- the reference's scalars of the text alone have changed -/
theorem TpM.fr {b : Nat → Nat} {n : Nat} {v w : St} (h : TpM b n v) (e1 : w.1 7 = v.1 7) (e2 : w.2 3 = v.2 3) (e3 : w.2 4 = v.2 4) (e4 : w.2 5 = v.2 5) : TpM b n w := ⟨h.1, e1.trans h.2.1, fun i hi => by rw [e2]; exact h.2.2.1 i hi, e3.trans h.2.2.2.1, e4.trans h.2.2.2.2⟩
theorem M_skip (F : Nat) (hF : 200 ≤ F) {b : Nat → Nat} {n s p : Nat} (J : St → Option (Unit × St)) (v : St) (hT : TpM b n v) (hs : v.1 11 = nI s) (hr : Run (fun i => decide (b i = 32)) n s p) : ∃ v', lp0 (bX7_step_8 F J) F v = J v' ∧ v'.1 11 = nI p ∧ (∀ k, k ≠ 11 → v'.1 k = v.1 k) ∧ v'.2 = v.2 := by
  obtain ⟨r1, r2, r3, r4⟩ := hr
  have n1 := hT.1
  refine lp0_up (n := p - s) (I := fun i w => w.1 11 = nI (s + i) ∧ (∀ k, k ≠ 11 → w.1 k = v.1 k) ∧ w.2 = v.2) (Q := fun o => ∃ v' : St, o = J v' ∧ v'.1 11 = nI p ∧ (∀ k, k ≠ 11 → v'.1 k = v.1 k) ∧ v'.2 = v.2) ?_ ?_ (p - s) 0 F v (by omega) (by omega) ⟨hs, fun _ _ => rfl, rfl⟩
  · rintro g w ⟨w1, w2, w3⟩
    rw [show s + (p - s) = p by omega] at w1
    refine ⟨w, ?_, w1, w2, w3⟩
    have hTw : TpM b n w := hT.fr (w2 7 (by omega)) (by rw [w3]) (by rw [w3]) (by rw [w3])
    unfold bX7_step_8
    rw [w1]
    by_cases q : n ≤ p
    · rw [M_byteN F w hTw q (by omega), bd_s, if_neg (show ¬ (-4 : Int32) = 32 by decide)]
    · have b1 := (hT.2.2.1 p (by omega)).1
      have hq := r4 (by omega)
      rw [M_byte F w hTw (by omega), bd_s, L32, if_neg (neI (of_decide_eq_false hq) (by omega) (by omega))]
  · rintro g i w hi ⟨w1, w2, w3⟩
    have hTw : TpM b n w := hT.fr (w2 7 (by omega)) (by rw [w3]) (by rw [w3]) (by rw [w3])
    have hq := r3 (s + i) (by omega) (by omega)
    refine Or.inr ⟨stf w 11 (nI (s + i + 1)), ?_, rfl, fun k hk => by rw [stf_1, if_neg hk, w2 k hk], w3⟩
    unfold bX7_step_8
    rw [w1, M_byte F w hTw (by omega), bd_s, of_decide_eq_true hq, if_pos (show nI 32 = 32 from rfl), vl_e, w1, nI_s]
theorem cls1 (c : Nat) : (97 ≤ c ∧ c ≤ 122) ↔ cls c = 1 := by
  unfold cls
  constructor
  · intro h
    rw [if_pos h]
  · intro h
    split at h
    · assumption
    · split at h
      · omega
      · split at h <;> omega
theorem cls2' (c : Nat) : (48 ≤ c ∧ c ≤ 57) ↔ cls c = 2 := by
  constructor
  · intro h
    unfold cls
    rw [if_neg (by omega), if_pos h]
  · exact cls2
theorem M_letters (F : Nat) (hF : 200 ≤ F) {b : Nat → Nat} {n s p : Nat} (J : St → Option (Unit × St)) (v : St) (hT : TpM b n v) (hs : v.1 11 = nI s) (hr : Run (fun i => decide (cls (b i) = 1)) n s p) : ∃ v', lp0 (bX7_step_84 F J) F v = J v' ∧ v'.1 11 = nI p ∧ (∀ k, k ≠ 11 → v'.1 k = v.1 k) ∧ v'.2 = v.2 := by
  obtain ⟨r1, r2, r3, r4⟩ := hr
  have n1 := hT.1
  refine lp0_up (n := p - s) (I := fun i w => w.1 11 = nI (s + i) ∧ (∀ k, k ≠ 11 → w.1 k = v.1 k) ∧ w.2 = v.2) (Q := fun o => ∃ v' : St, o = J v' ∧ v'.1 11 = nI p ∧ (∀ k, k ≠ 11 → v'.1 k = v.1 k) ∧ v'.2 = v.2) ?_ ?_ (p - s) 0 F v (by omega) (by omega) ⟨hs, fun _ _ => rfl, rfl⟩
  · rintro g w ⟨w1, w2, w3⟩
    rw [show s + (p - s) = p by omega] at w1
    refine ⟨w, ?_, w1, w2, w3⟩
    have hTw : TpM b n w := hT.fr (w2 7 (by omega)) (by rw [w3]) (by rw [w3]) (by rw [w3])
    unfold bX7_step_84
    rw [w1, l97, l122]
    by_cases q : n ≤ p
    · rw [M_byteN F w hTw q (by omega), bd_s, M_inbN F w (by omega) (by omega), bd_s, i00]
    · have b1 := (hT.2.2.1 p (by omega)).1
      have hq := of_decide_eq_false (r4 (by omega))
      rw [M_byte F w hTw (by omega), bd_s, M_inb F (by omega) w (by omega) (by omega), bd_s, b01_f (fun z => hq ((cls1 _).mp z)), i00]
  · rintro g i w hi ⟨w1, w2, w3⟩
    have hTw : TpM b n w := hT.fr (w2 7 (by omega)) (by rw [w3]) (by rw [w3]) (by rw [w3])
    have hq := of_decide_eq_true (r3 (s + i) (by omega) (by omega))
    have b1 := (hT.2.2.1 (s + i) (by omega)).1
    refine Or.inr ⟨stf w 11 (nI (s + i + 1)), ?_, rfl, fun k hk => by rw [stf_1, if_neg hk, w2 k hk], w3⟩
    unfold bX7_step_84
    rw [w1, l97, l122, M_byte F w hTw (by omega), bd_s, M_inb F (by omega) w (by omega) (by omega), bd_s, b01_t ((cls1 _).mpr hq), i10, vl_e, w1, nI_s]
def mn2 (k : Nat) : Nat := if k < 2 then k else 2
theorem M_digits (F : Nat) (hF : 200 ≤ F) {b : Nat → Nat} {n s p : Nat} (J : St → Option (Unit × St)) (v : St) (hT : TpM b n v) (hs : v.1 11 = nI s) (h12 : v.1 12 = nI s) (h14 : v.1 14 = 0) (hr : Run (fun i => decide (cls (b i) = 2)) n s p) : ∃ v', lp0 (bX7_step_140 F J) F v = J v' ∧ v'.1 11 = nI p ∧ v'.1 14 = nI (fig b s (mn2 (p - s))) ∧ (∀ k, k ≠ 11 → k ≠ 14 → v'.1 k = v.1 k) ∧ v'.2 = v.2 := by
  obtain ⟨r1, r2, r3, r4⟩ := hr
  have n1 := hT.1
  refine lp0_up (n := p - s) (I := fun i w => w.1 11 = nI (s + i) ∧ w.1 14 = nI (fig b s (mn2 i)) ∧ (∀ k, k ≠ 11 → k ≠ 14 → w.1 k = v.1 k) ∧ w.2 = v.2) (Q := fun o => ∃ v' : St, o = J v' ∧ v'.1 11 = nI p ∧ v'.1 14 = nI (fig b s (mn2 (p - s))) ∧ (∀ k, k ≠ 11 → k ≠ 14 → v'.1 k = v.1 k) ∧ v'.2 = v.2) ?_ ?_ (p - s) 0 F v (by omega) (by omega) ⟨hs, h14, fun _ _ _ => rfl, rfl⟩
  · rintro g w ⟨w1, w4, w2, w3⟩
    rw [show s + (p - s) = p by omega] at w1
    refine ⟨w, ?_, w1, w4, w2, w3⟩
    have hTw : TpM b n w := hT.fr (w2 7 (by omega) (by omega)) (by rw [w3]) (by rw [w3]) (by rw [w3])
    unfold bX7_step_140
    rw [w1, l48, l57]
    by_cases q : n ≤ p
    · rw [M_byteN F w hTw q (by omega), bd_s, M_inbN F w (by omega) (by omega), bd_s, i00]
    · have b1 := (hT.2.2.1 p (by omega)).1
      have hq := of_decide_eq_false (r4 (by omega))
      rw [M_byte F w hTw (by omega), bd_s, M_inb F (by omega) w (by omega) (by omega), bd_s, b01_f (fun z => hq ((cls2' _).mp z)), i00]
  · rintro g i w hi ⟨w1, w4, w2, w3⟩
    have hTw : TpM b n w := hT.fr (w2 7 (by omega) (by omega)) (by rw [w3]) (by rw [w3]) (by rw [w3])
    have hq := of_decide_eq_true (r3 (s + i) (by omega) (by omega))
    have b1 := (hT.2.2.1 (s + i) (by omega)).1
    have hc := cls2 hq
    have w12 : w.1 12 = nI s := (w2 12 (by omega) (by omega)).trans h12
    refine Or.inr ⟨stf (stf w 14 (nI (fig b s (mn2 (i + 1))))) 11 (nI (s + i + 1)), ?_, rfl, ?_, fun k hk hk' => by rw [stf_1, if_neg hk, stf_1, if_neg hk', w2 k hk hk'], w3⟩
    · unfold bX7_step_140
      rw [w1, l48, l57, M_byte F w hTw (by omega), bd_s, M_inb F (by omega) w (by omega) (by omega), bd_s, b01_t ((cls2' _).mpr hq), i10]
      simp only [jn_e, vl_e]
      rw [w1, w12, subI (by omega), show s + i - s = i by omega, w4, M_byte F w hTw (by omega)]
      by_cases q : i < 2
      · rw [if_neg (show ¬ (2 : Int32) ≤ nI i from by rw [L2]; exact nle q (by omega)), bd_s, tm10, nI_add, show (48 : Int32) = nI 48 from rfl, subI (by omega), show mn2 (i + 1) = i + 1 from by unfold mn2; split <;> omega, show mn2 i = i from by unfold mn2; rw [if_pos q], fig, stf_1, if_neg (by omega), w1, nI_s]
      · rw [if_pos (show (2 : Int32) ≤ nI i from by rw [L2]; exact yle (by omega) (by omega)), show mn2 (i + 1) = mn2 i from by unfold mn2; rw [if_neg q, if_neg (by omega)], stf_1, if_neg (by omega), w1, nI_s]
    · rw [stf_1, if_neg (by omega), stf_1, if_pos rfl]
end
section
/-! PURE: text: the next token, on both sides -/
/-- a token stands: t its kind (0: the end), from p to e, its value -/
def Tok (b : Nat → Nat) (n t p e vl : Nat) (u v : St) : Prop := t ≤ 3 ∧ p ≤ e ∧ e ≤ n ∧ (t ≠ 0 → p < e) ∧ vl < 100 ∧ u.1 20 = nI t ∧ u.1 21 = nI p ∧ u.1 22 = nI e ∧ (t = 2 → u.1 23 = nI vl) ∧ v.1 13 = nI t ∧ v.1 12 = nI p ∧ v.1 11 = nI e ∧ v.1 14 = nI vl ∧ v.1 9 = nI 0
/-- what reading a token leaves -/
def ftX (u u' : St) : Prop := (∀ k, (k < 20 ∨ 23 < k) → u'.1 k = u.1 k) ∧ u'.2 = u.2
def ftM (v v' : St) : Prop := (∀ k, (k < 11 ∨ 14 < k) → v'.1 k = v.1 k) ∧ v'.2 = v.2
/-- both have stopped: fault k at p -/
def Bad (k p : Nat) (u v : St) : Prop := 0 < k ∧ k < 10 ∧ p ≤ 160 ∧ (u.1 18 = nI k ∨ (k = 2 ∧ u.1 18 = nI 5)) ∧ u.1 21 = nI p ∧ v.1 9 = nI k ∧ v.1 10 = nI p
def fbX (u u' : St) : Prop := (∀ k, (k < 18 ∨ k = 19 ∨ 23 < k) → u'.1 k = u.1 k) ∧ u'.2 = u.2
def fbM (v v' : St) : Prop := (∀ k, (k < 9 ∨ 14 < k) → v'.1 k = v.1 k) ∧ v'.2 = v.2
theorem M_fails (F : Nat) {p : Nat} (v : St) (k : Int32) (h9 : v.1 9 = nI 0) (h12 : v.1 12 = nI p) : pX7_fails F k v = some ((), stf (stf v 9 k) 10 (nI p)) := by
  unfold pX7_fails
  rw [h9, if_pos (show nI 0 = 0 from rfl), vl_e, stf_1, if_neg (by omega), h12, vl_e]
theorem M_failsN (F : Nat) {q : Nat} (v : St) (k : Int32) (h9 : v.1 9 = nI q) (hq : 0 < q) (hq2 : q < 10) : pX7_fails F k v = some ((), v) := by
  unfold pX7_fails
  rw [h9, if_neg (n0f (by omega) (by omega))]
theorem sf_n (u : St) (k : Nat) (v : Int32) {j : Nat} (h : j ≠ k) : (stf u k v).1 j = u.1 j := by rw [stf_1, if_neg h]
theorem sf_k (u : St) (k : Nat) (v : Int32) : (stf u k v).1 k = v := by rw [stf_1, if_pos rfl]
theorem next2 (F : Nat) (hF : 200 ≤ F) {b : Nat → Nat} {n s : Nat} (u v : St) (hX : TpX b n u) (hM : TpM b n v) (hs : s ≤ n) (h22 : u.1 22 = nI s) (h11 : v.1 11 = nI s) (h9 : v.1 9 = nI 0) :
    (∃ t p e vl u' v', pX2_readsNext F u = some (1, u') ∧ pX7_step F v = some ((), v') ∧ Tok b n t p e vl u' v' ∧ s ≤ p ∧ ftX u u' ∧ ftM v v') ∨ (∃ p u' v', pX2_readsNext F u = some (0, u') ∧ pX7_step F v = some ((), v') ∧ Bad 1 p u' v' ∧ fbX u u' ∧ fbM v v') := by
  have n1 := hX.1
  obtain ⟨p, hp⟩ := Run_ex (fun i => decide (b i = 32)) n (n - s) s (by omega)
  have hp1 := hp.1
  have hp2 := hp.2.1
  obtain ⟨w, g1, g2, g3, g4⟩ := X_skip F hF (jX2_readsNext_38 F) u hX h22 hp
  obtain ⟨y, m1, m2, m3, m4⟩ := M_skip F hF (jX7_step_34 F) v hM h11 hp
  have hX0 : pX2_readsNext F u = jX2_readsNext_38 F w := by
    unfold pX2_readsNext
    rw [jn_e, g1]
  have hM0 : pX7_step F v = jX7_step_34 F y := by
    unfold pX7_step
    rw [h9, if_pos (show nI 0 ≤ 0 by decide), jn_e, m1]
  have w17 : w.1 17 = nI n := (g3 17 (by omega)).trans hX.2.1
  have y9 : y.1 9 = nI 0 := (m3 9 (by omega)).trans h9
  by_cases hpn : p = n
  · subst hpn
    refine Or.inl ⟨0, p, p, 0, stf (stf w 21 (nI p)) 20 0, stf (stf (stf y 12 (nI p)) 14 0) 13 0, ?_, ?_, ⟨by omega, Nat.le_refl _, Nat.le_refl _, fun z => absurd rfl z, by omega, by rw [stf_1, if_pos rfl]; rfl, by rw [stf_1, if_neg (by omega), stf_1, if_pos rfl], by rw [stf_1, if_neg (by omega), stf_1, if_neg (by omega)]; exact g2, fun z => by omega, by rw [stf_1, if_pos rfl]; rfl, by rw [stf_1, if_neg (by omega), stf_1, if_neg (by omega), stf_1, if_pos rfl], by rw [stf_1, if_neg (by omega), stf_1, if_neg (by omega), stf_1, if_neg (by omega)]; exact m2, by rw [stf_1, if_neg (by omega), stf_1, if_pos rfl]; rfl, by rw [stf_1, if_neg (by omega), stf_1, if_neg (by omega), stf_1, if_neg (by omega)]; exact y9⟩, hp1, ⟨fun k hk => by rw [stf_1, if_neg (by omega), stf_1, if_neg (by omega)]; exact g3 k (by omega), g4⟩, ⟨fun k hk => by rw [stf_1, if_neg (by omega), stf_1, if_neg (by omega), stf_1, if_neg (by omega)]; exact m3 k (by omega), m4⟩⟩
    · rw [hX0]
      unfold jX2_readsNext_38
      rw [g2, vl_e, sf_k, sf_n _ _ _ (by omega), w17, if_neg (nlt (Nat.le_refl _) (by omega)), vl_e]
    · rw [hM0]
      have hTy : TpM b p (stf y 12 (nI p)) := hM.fr (by rw [stf_1, if_neg (by omega)]; exact m3 7 (by omega)) (by rw [stf_2, m4]) (by rw [stf_2, m4]) (by rw [stf_2, m4])
      unfold jX7_step_34
      rw [m2, vl_e, stf_1, if_neg (by omega), m2, M_byteN F _ hTy (Nat.le_refl _) (by omega), bd_s, vl_e, if_pos rfl, vl_e]
  · have hpl : p < n := by omega
    obtain ⟨b1, b2⟩ := hX.2.2 p hpl
    have hcb := cls_bd (b p)
    -- the class has the kind
    obtain ⟨w2, hw2⟩ : ∃ w2, w2 = stf (stf (stf w 21 (nI p)) 20 (nI (cls (b p)))) 22 (nI (p + 1)) := ⟨_, rfl⟩
    have w2' : w2.2 = u.2 := by rw [hw2]; exact g4
    have w20 : w2.1 20 = nI (cls (b p)) := by rw [hw2, stf_1, if_neg (by omega), stf_1, if_pos rfl]
    have w21 : w2.1 21 = nI p := by rw [hw2, stf_1, if_neg (by omega), stf_1, if_neg (by omega), stf_1, if_pos rfl]
    have w22 : w2.1 22 = nI (p + 1) := by rw [hw2, stf_1, if_pos rfl]
    have w2o : ∀ k, (k < 20 ∨ 22 < k) → w2.1 k = u.1 k := fun k hk => by rw [hw2, stf_1, if_neg (by omega), stf_1, if_neg (by omega), stf_1, if_neg (by omega)]; exact g3 k (by omega)
    have hT2 : TpX b n w2 := ⟨hX.1, (w2o 17 (by omega)).trans hX.2.1, fun i hi => by rw [w2']; exact hX.2.2 i hi⟩
    have hXr : pX2_readsNext F u = lp0 (bX2_readsNext_90 F (jX2_readsNext_141 F)) F w2 := by
      rw [hX0]
      unfold jX2_readsNext_38
      rw [g2, vl_e, sf_k, sf_n _ _ _ (by omega), w17, if_pos (ylt hpl (by omega)), gd_i (by omega) (by omega), cl (by omega), stf_2, g4, b2, X_tok F (by omega), bd_s, vl_e, sf_n _ _ _ (by omega), sf_n _ _ _ (by omega), g2, vl_e, jn_e, nI_s, hw2]
    -- the reference has the byte
    obtain ⟨y2, hy2⟩ : ∃ y2, y2 = stf (stf y 12 (nI p)) 14 0 := ⟨_, rfl⟩
    have y2' : y2.2 = v.2 := by rw [hy2]; exact m4
    have y211 : y2.1 11 = nI p := by rw [hy2, stf_1, if_neg (by omega), stf_1, if_neg (by omega)]; exact m2
    have y212 : y2.1 12 = nI p := by rw [hy2, stf_1, if_neg (by omega), stf_1, if_pos rfl]
    have y214 : y2.1 14 = 0 := by rw [hy2, stf_1, if_pos rfl]
    have y29 : y2.1 9 = nI 0 := by rw [hy2, stf_1, if_neg (by omega), stf_1, if_neg (by omega)]; exact y9
    have y2o : ∀ k, (k < 11 ∨ 12 < k) → k ≠ 14 → y2.1 k = v.1 k := fun k hk hk2 => by rw [hy2, stf_1, if_neg (by omega), stf_1, if_neg (by omega)]; exact m3 k (by omega)
    have hTy2 : TpM b n y2 := hM.fr (y2o 7 (by omega) (by omega)) (by rw [y2']) (by rw [y2']) (by rw [y2'])
    have hMr : pX7_step F v = bd (pX7_in F (Int32.toInt64 (nI (b p))) 97 122 y2) (fun (r7 : Int32) (u6 : St) => if r7 = 0 then bd (pX7_in F (Int32.toInt64 (nI (b p))) 48 57 u6) (fun (r9 : Int32) (u8 : St) => if r9 = 0 then vl (stf u8 13 3) (fun (u10 : St) => vl (stf u10 11 ((u10.1 11) + 1)) (fun (u11 : St) => if nI (b p) = 59 then some ((), u11) else bd (pX7_fails F 1 u11) (fun (_ : Unit) (u12 : St) => some ((), u12)))) else jn (jX7_step_217 F) (fun (J217 : St → Option (Unit × St)) => (lp0 (bX7_step_140 F J217) F u8))) else jn (jX7_step_118 F) (fun (J118 : St → Option (Unit × St)) => (lp0 (bX7_step_84 F J118) F u6))) := by
      rw [hM0]
      have hTy : TpM b n (stf y 12 (nI p)) := hM.fr (by rw [stf_1, if_neg (by omega)]; exact m3 7 (by omega)) (by rw [stf_2, m4]) (by rw [stf_2, m4]) (by rw [stf_2, m4])
      unfold jX7_step_34
      rw [m2, vl_e, stf_1, if_neg (by omega), m2, M_byte F _ hTy hpl, bd_s, vl_e, if_neg (m4_lt (by omega)).2.1, ← hy2]
    rw [l97, l122, M_inb F (by omega) y2 (by omega) (by omega), bd_s] at hMr
    by_cases c1 : cls (b p) = 1
    · -- a name
      rw [b01_t ((cls1 _).mpr c1), i10, jn_e] at hMr
      obtain ⟨e, he⟩ := Run_ex (fun i => decide (cls (b i) = 1)) n (n - (p + 1)) (p + 1) (by omega)
      have he1 := he.1
      have he2 := he.2.1
      have he' : Run (fun i => decide (cls (b i) = 1)) n p e := ⟨by omega, he.2.1, fun i h1 h2 => by
        by_cases z : i = p
        · rw [z]; exact decide_eq_true c1
        · exact he.2.2.1 i (by omega) h2, he.2.2.2⟩
      obtain ⟨w3, k1, k2, k3, k4⟩ := X_runT F hF (t := 1) (jX2_readsNext_141 F) w2 hT2 w22 (by rw [w20, c1]) (by omega) (by omega) he
      obtain ⟨y3, o1, o2, o3, o4⟩ := M_letters F hF (jX7_step_118 F) y2 hTy2 y211 he'
      have w320 : w3.1 20 = nI 1 := by rw [k3 20 (by omega), w20, c1]
      refine Or.inl ⟨1, p, e, 0, stf w3 23 (-4), stf y3 13 1, ?_, ?_, ⟨by omega, by omega, he2, fun _ => by omega, by omega, by rw [stf_1, if_neg (by omega)]; exact w320, by rw [stf_1, if_neg (by omega), k3 21 (by omega)]; exact w21, by rw [stf_1, if_neg (by omega)]; exact k2, fun z => by omega, by rw [stf_1, if_pos rfl]; rfl, by rw [stf_1, if_neg (by omega), o3 12 (by omega)]; exact y212, by rw [stf_1, if_neg (by omega)]; exact o2, by rw [stf_1, if_neg (by omega), o3 14 (by omega)]; exact y214, by rw [stf_1, if_neg (by omega), o3 9 (by omega)]; exact y29⟩, hp1, ⟨fun k hk => by rw [stf_1, if_neg (by omega), k3 k (by omega)]; exact w2o k (by omega), by rw [stf_2, k4, w2']⟩, ⟨fun k hk => by rw [stf_1, if_neg (by omega), o3 k (by omega)]; exact y2o k (by omega) (by omega), by rw [stf_2, o4, y2']⟩⟩
      · rw [hXr, k1]
        unfold jX2_readsNext_141
        simp only [jn_e, vl_e, w320]
        rw [if_neg (show ¬ nI 1 = 4 by decide), if_neg (show ¬ nI 1 = 2 by decide), if_neg (show ¬ nI 1 = 2 by decide)]
      · rw [hMr, o1]
        unfold jX7_step_118
        rw [vl_e]
    · rw [b01_f (fun z => c1 ((cls1 _).mp z)), i00, l48, l57, M_inb F (by omega) y2 (by omega) (by omega), bd_s] at hMr
      by_cases c2 : cls (b p) = 2
      · -- a number
        rw [b01_t ((cls2' _).mpr c2), i10, jn_e] at hMr
        obtain ⟨e, he⟩ := Run_ex (fun i => decide (cls (b i) = 2)) n (n - (p + 1)) (p + 1) (by omega)
        have he1 := he.1
        have he2 := he.2.1
        have he' : Run (fun i => decide (cls (b i) = 2)) n p e := ⟨by omega, he.2.1, fun i h1 h2 => by
          by_cases z : i = p
          · rw [z]; exact decide_eq_true c2
          · exact he.2.2.1 i (by omega) h2, he.2.2.2⟩
        have hdig : ∀ i, p ≤ i → i < e → cls (b i) = 2 := fun i h1 h2 => of_decide_eq_true (he'.2.2.1 i h1 h2)
        obtain ⟨w3, k1, k2, k3, k4⟩ := X_runT F hF (t := 2) (jX2_readsNext_141 F) w2 hT2 w22 (by rw [w20, c2]) (by omega) (by omega) he
        obtain ⟨y3, o1, o2, o5, o3, o4⟩ := M_digits F hF (jX7_step_217 F) y2 hTy2 y211 y212 y214 he'
        have w320 : w3.1 20 = nI 2 := by rw [k3 20 (by omega), w20, c2]
        have w321 : w3.1 21 = nI p := by rw [k3 21 (by omega)]; exact w21
        have y312 : y3.1 12 = nI p := (o3 12 (by omega) (by omega)).trans y212
        have y39 : y3.1 9 = nI 0 := (o3 9 (by omega) (by omega)).trans y29
        by_cases hlen : e ≤ p + 2
        · have ev : mn2 (e - p) = e - p := by unfold mn2; split <;> omega
          have hT3 : TpX b n w3 := ⟨hX.1, (k3 17 (by omega)).trans hT2.2.1, fun i hi => by rw [k4]; exact hT2.2.2 i hi⟩
          have hf := X_figs F hF w3 hT3 w321 k2 (by omega) he2 hdig hlen
          have hfl := fig_lt (b := b) (p := p) (e - p) (by omega) (fun i h1 h2 => hdig i h1 (by omega))
          rw [ev] at o5
          refine Or.inl ⟨2, p, e, fig b p (e - p), stf w3 23 (nI (fig b p (e - p))), stf y3 13 2, ?_, ?_, ⟨by omega, by omega, he2, fun _ => by omega, hfl, by rw [stf_1, if_neg (by omega)]; exact w320, by rw [stf_1, if_neg (by omega)]; exact w321, by rw [stf_1, if_neg (by omega)]; exact k2, fun _ => by rw [stf_1, if_pos rfl], by rw [stf_1, if_pos rfl]; rfl, by rw [stf_1, if_neg (by omega)]; exact y312, by rw [stf_1, if_neg (by omega)]; exact o2, by rw [stf_1, if_neg (by omega)]; exact o5, by rw [stf_1, if_neg (by omega)]; exact y39⟩, hp1, ⟨fun k hk => by rw [stf_1, if_neg (by omega), k3 k (by omega)]; exact w2o k (by omega), by rw [stf_2, k4, w2']⟩, ⟨fun k hk => by rw [stf_1, if_neg (by omega), o3 k (by omega) (by omega)]; exact y2o k (by omega) (by omega), by rw [stf_2, o4, y2']⟩⟩
          · rw [hXr, k1]
            unfold jX2_readsNext_141
            simp only [jn_e, vl_e, w320]
            rw [if_neg (show ¬ nI 2 = 4 by decide), if_pos (show nI 2 = 2 from rfl), k2, w321, subI (by omega), if_pos (show nI (e - p) ≤ 2 from by rw [L2]; exact yle (by omega) (by omega)), if_pos (show nI 2 = 2 from rfl), hf, bd_s]
          · rw [hMr, o1]
            unfold jX7_step_217
            rw [vl_e, sf_n _ _ _ (by omega), sf_n _ _ _ (by omega), o2, y312, subI (by omega), if_pos (show nI (e - p) ≤ 2 from by rw [L2]; exact yle (by omega) (by omega))]
        · refine Or.inr ⟨p, stf w3 18 1, stf (stf (stf y3 13 2) 9 1) 10 (nI p), ?_, ?_, ⟨by omega, by omega, by omega, Or.inl (by rw [stf_1, if_pos rfl]; rfl), by rw [stf_1, if_neg (by omega)]; exact w321, by rw [stf_1, if_neg (by omega), stf_1, if_pos rfl]; rfl, by rw [stf_1, if_pos rfl]⟩, ⟨fun k hk => by rw [stf_1, if_neg (by omega), k3 k (by omega)]; exact w2o k (by omega), by rw [stf_2, k4, w2']⟩, ⟨fun k hk => by rw [stf_1, if_neg (by omega), stf_1, if_neg (by omega), stf_1, if_neg (by omega), o3 k (by omega) (by omega)]; exact y2o k (by omega) (by omega), by rw [stf_2, stf_2, stf_2, o4, y2']⟩⟩
          · rw [hXr, k1]
            unfold jX2_readsNext_141 pX2_fails
            simp only [jn_e, vl_e, w320, bd_s]
            rw [if_neg (show ¬ nI 2 = 4 by decide), if_pos (show nI 2 = 2 from rfl), k2, w321, subI (by omega), if_neg (show ¬ nI (e - p) ≤ 2 from by rw [L2]; exact nle (by omega) (by omega)), z01_0, gd_true]
          · rw [hMr, o1]
            unfold jX7_step_217
            rw [vl_e, sf_n _ _ _ (by omega), sf_n _ _ _ (by omega), o2, y312, subI (by omega), if_neg (show ¬ nI (e - p) ≤ 2 from by rw [L2]; exact nle (by omega) (by omega)), M_fails F (p := p) _ 1 (by rw [stf_1, if_neg (by omega)]; exact y39) (by rw [stf_1, if_neg (by omega)]; exact y312), bd_s]
      · rw [b01_f (fun z => c2 ((cls2' _).mp z)), i00, vl_e, stf_1, if_neg (by omega), y211, vl_e, nI_s] at hMr
        by_cases c3 : cls (b p) = 3
        · -- a sign
          have hb59 : b p = 59 := by
            unfold cls at c3
            split at c3
            · omega
            · split at c3
              · omega
              · split at c3
                · assumption
                · omega
          have hJ : lp0 (bX2_readsNext_90 F (jX2_readsNext_141 F)) F w2 = jX2_readsNext_141 F w2 := by
            obtain ⟨f, hf⟩ : ∃ f, F = f + 1 := ⟨F - 1, by omega⟩
            generalize hg : lp0 (bX2_readsNext_90 F (jX2_readsNext_141 F)) F = G
            have hg' : G = lp0 (bX2_readsNext_90 F (jX2_readsNext_141 F)) (f + 1) := by rw [← hg]; exact congrArg _ hf
            rw [hg', lp0_s]
            unfold bX2_readsNext_90
            rw [w20, c3]
            by_cases z : w2.1 17 ≤ w2.1 22
            · rw [if_pos z]
            · rw [if_neg z, if_pos (show nI 3 = 3 from rfl)]
          refine Or.inl ⟨3, p, p + 1, 0, stf w2 23 (-4), stf (stf y2 13 3) 11 (nI (p + 1)), ?_, ?_, ⟨by omega, by omega, by omega, fun _ => by omega, by omega, by rw [stf_1, if_neg (by omega), w20, c3], by rw [stf_1, if_neg (by omega)]; exact w21, by rw [stf_1, if_neg (by omega)]; exact w22, fun z => by omega, by rw [stf_1, if_neg (by omega), stf_1, if_pos rfl]; rfl, by rw [stf_1, if_neg (by omega), stf_1, if_neg (by omega)]; exact y212, by rw [stf_1, if_pos rfl], by rw [stf_1, if_neg (by omega), stf_1, if_neg (by omega)]; exact y214, by rw [stf_1, if_neg (by omega), stf_1, if_neg (by omega)]; exact y29⟩, hp1, ⟨fun k hk => by rw [stf_1, if_neg (by omega)]; exact w2o k (by omega), by rw [stf_2, w2']⟩, ⟨fun k hk => by rw [stf_1, if_neg (by omega), stf_1, if_neg (by omega)]; exact y2o k (by omega) (by omega), by rw [stf_2, stf_2, y2']⟩⟩
          · rw [hXr, hJ]
            unfold jX2_readsNext_141
            simp only [jn_e, vl_e, w20, c3]
            rw [if_neg (show ¬ nI 3 = 4 by decide), if_neg (show ¬ nI 3 = 2 by decide), if_neg (show ¬ nI 3 = 2 by decide)]
          · rw [hMr, hb59, if_pos (show nI 59 = 59 from rfl)]
        · -- nothing
          have c4 : cls (b p) = 4 := by omega
          have hb59 : b p ≠ 59 := by
            intro z
            rw [z] at c3
            exact c3 (by decide)
          obtain ⟨e, he⟩ := Run_ex (fun i => decide (cls (b i) = 4)) n (n - (p + 1)) (p + 1) (by omega)
          obtain ⟨w3, k1, k2, k3, k4⟩ := X_runT F hF (t := 4) (jX2_readsNext_141 F) w2 hT2 w22 (by rw [w20, c4]) (by omega) (by omega) he
          have w320 : w3.1 20 = nI 4 := by rw [k3 20 (by omega), w20, c4]
          have w321 : w3.1 21 = nI p := by rw [k3 21 (by omega)]; exact w21
          refine Or.inr ⟨p, stf w3 18 1, stf (stf (stf (stf y2 13 3) 11 (nI (p + 1))) 9 1) 10 (nI p), ?_, ?_, ⟨by omega, by omega, by omega, Or.inl (by rw [stf_1, if_pos rfl]; rfl), by rw [stf_1, if_neg (by omega)]; exact w321, by rw [stf_1, if_neg (by omega), stf_1, if_pos rfl]; rfl, by rw [stf_1, if_pos rfl]⟩, ⟨fun k hk => by rw [stf_1, if_neg (by omega), k3 k (by omega)]; exact w2o k (by omega), by rw [stf_2, k4, w2']⟩, ⟨fun k hk => by rw [stf_1, if_neg (by omega), stf_1, if_neg (by omega), stf_1, if_neg (by omega), stf_1, if_neg (by omega)]; exact y2o k (by omega) (by omega), by rw [stf_2, stf_2, stf_2, stf_2, y2']⟩⟩
          · rw [hXr, k1]
            unfold jX2_readsNext_141 pX2_fails
            simp only [jn_e, vl_e, w320, bd_s]
            rw [if_pos (show nI 4 = 4 from rfl), z01_0, gd_true]
          · rw [hMr, if_neg (show ¬ nI (b p) = 59 from by rw [show (59 : Int32) = nI 59 from rfl]; exact neI hb59 (by omega) (by omega)), M_fails F (p := p) _ 1 (by rw [stf_1, if_neg (by omega), stf_1, if_neg (by omega)]; exact y29) (by rw [stf_1, if_neg (by omega), stf_1, if_neg (by omega)]; exact y212), bd_s]
end
section
/-! PURE: text: names -/
def cutN (k : Nat) : Nat := ([0, 6, 9, 13, 18, 23, 27, 32, 36, 40, 47, 53] : List Nat).getD k 0
def letN (i : Nat) : Nat := ([116, 97, 108, 108, 111, 119, 119, 97, 120, 98, 101, 101, 115, 116, 104, 105, 101, 102, 102, 105, 114, 115, 116, 108, 111, 110, 103, 115, 104, 111, 114, 116, 98, 97, 114, 101, 99, 97, 115, 101, 100, 114, 97, 117, 103, 104, 116, 100, 111, 99, 107, 101, 116] : List Nat).getD i 0
def lenN (k : Nat) : Nat := cutN (k + 1) - cutN k
theorem cut_e : ∀ k, k < 12 → u0M.2 4 k = nI (cutN k) := by decide +kernel
theorem let_e : ∀ i, i < 53 → u0M.2 5 i = nI (letN i) := by decide +kernel
theorem cut_b : ∀ k, k < 11 → cutN k + lenN k ≤ 53 ∧ 3 ≤ lenN k ∧ lenN k ≤ 7 ∧ cutN (k + 1) = cutN k + lenN k := by decide +kernel
theorem let_b : ∀ i, i < 53 → letN i ≤ 122 := by decide +kernel
/-- the class's constants are the reference's names in another order -/
def xm (x : Nat) : Nat := ([8, 0, 1, 2, 3, 9, 10, 4, 5, 6, 7] : List Nat).getD x 0
theorem xm_b : ∀ x, x < 11 → xm x < 11 := by decide +kernel
theorem len_ok : ∀ x, x < 11 → (Int32.ofNat (lenS.getD x 0)) >>> ((0 : Int32) &&& 31) = nI (lenN (xm x)) ∧ lenS.getD x 0 = lenN (xm x) := by decide +kernel
theorem ch_ok : ∀ x, x < 11 → ∀ i, i < 7 → i < lenN (xm x) → (¬ nI i < 0) ∧ (nI i < Int32.ofNat (lenS.getD x 0)) ∧ inb (nI i) (lenS.getD x 0) = true ∧ (UInt32.toInt32 (Int32.toUInt32 (((bytS.getD x []).getD (Int32.toNatClampNeg (nI i)) 0) &&& 255) % 65536)) = nI (letN (cutN (xm x) + i)) ∧ c16 (nI (letN (cutN (xm x) + i))) = true := by decide +kernel
theorem X_len (F : Nat) {x : Nat} (hx : x < 11) (u : St) : pJ0_length_8abf5 F x u = some (nI (lenN (xm x)), u) := by
  unfold pJ0_length_8abf5 pJ0_coder_7d493
  rw [bd_s, (len_ok x hx).1]
theorem X_char (F : Nat) {x i : Nat} (hx : x < 11) (hi : i < 7) (hi2 : i < lenN (xm x)) (u : St) : pJ0_charAt_5068e F x (nI i) u = some (nI (letN (cutN (xm x) + i)), u) := by
  obtain ⟨c1, c2, c3, c4, c5⟩ := ch_ok x hx i hi hi2
  unfold pJ0_charAt_5068e pJ0_isLatin1_aae02 pJ1_charAt_3b067 pJ0_checkIndex_df160 pJ3_checkIndex_8e157
  rw [bd_s, i10, if_neg c1, if_pos c2, bd_s, bd_s, c3, gd_true, c4, c5, gd_true, bd_s, c5, gd_true]
def nmd (b : Nat → Nat) (p e t k : Nat) : Bool := decide (t = 1) && (decide (e - p = lenN k) && al (fun i => decide (b (p + i) = letN (cutN k + i))) (e - p))
theorem X_named (F : Nat) (hF : 200 ≤ F) {b : Nat → Nat} {n t p e vl x : Nat} (u v : St) (hT : TpX b n u) (hK : Tok b n t p e vl u v) (hx : x < 11) : pX2_isNamed F x u = some (if nmd b p e t (xm x) = true then 1 else 0, u) := by
  obtain ⟨n1, n2, n3⟩ := hT
  obtain ⟨k1, k2, k3, k4, k5, k20, k21, k22, -⟩ := hK
  obtain ⟨c1, c2, c3, c4⟩ := cut_b _ (xm_b x hx)
  unfold pX2_isNamed nmd
  rw [k20, L1, ifeq (by omega) (by omega)]
  by_cases ht : t = 1
  · rw [if_pos ht, decide_eq_true ht, Bool.true_and, X_len F hx, bd_s, k22, k21, subI (by omega), ifeq (by omega) (by omega)]
    by_cases hl : e - p = lenN (xm x)
    · rw [if_pos hl, decide_eq_true hl, Bool.true_and]
      refine lq1_up (n := e - p) (I := fun i w => w = u ∧ ∀ j, j < i → decide (b (p + j) = letN (cutN (xm x) + j)) = true) (Q := fun o => o = some (if al (fun i => decide (b (p + i) = letN (cutN (xm x) + i))) (e - p) = true then nI 1 else 0, u)) ?_ ?_ (e - p) 0 F u (by omega) (by omega) ⟨rfl, fun j hj => by omega⟩
      · rintro g w ⟨rfl, h1⟩
        unfold bX2_isNamed_28
        rw [X_len F hx, bd_s, if_pos (yle (by omega) (by omega)), if_pos (al_i h1)]
        rfl
      · rintro g i w hi ⟨rfl, h1⟩
        obtain ⟨b1, b2⟩ := n3 (p + i) (by omega)
        have lb := let_b (cutN (xm x) + i) (by omega)
        have hrun : bX2_isNamed_28 F x g (nI i) w = if b (p + i) = letN (cutN (xm x) + i) then g (nI (i + 1)) w else some (0, w) := by
          unfold bX2_isNamed_28
          rw [X_len F hx, bd_s, if_neg (nle (by omega) (by omega)), k21, nI_add, if_neg (show ¬ (160 : Int32) ≤ nI (p + i) from by rw [L160]; exact nle (by omega) (by omega)), gd_i (by omega) (by omega), X_char F hx (by omega) (by omega), bd_s, cl (by omega), b2, ifeq (by omega) (by omega), nI_s]
        by_cases q : b (p + i) = letN (cutN (xm x) + i)
        · refine Or.inr ⟨w, by rw [hrun, if_pos q], rfl, fun j hj => ?_⟩
          by_cases z : j = i
          · rw [z]; exact decide_eq_true q
          · exact h1 j (by omega)
        · refine Or.inl ?_
          rw [hrun, if_neg q, al_f hi (decide_eq_false q), if_neg (by decide)]
    · rw [if_neg hl, decide_eq_false hl, Bool.false_and, if_neg (by decide)]
  · rw [if_neg ht, decide_eq_false ht, Bool.false_and, if_neg (by decide)]
theorem M_name (F : Nat) (hF : 200 ≤ F) {b : Nat → Nat} {n t p e vl : Nat} (u v : St) (hT : TpM b n v) (hK : Tok b n t p e vl u v) : ∃ r, pX7_nameHere F v = some (r, v) ∧ FF (fun k => nmd b p e t k) 11 r := by
  have hT' := hT
  obtain ⟨n1, n2, n3, n4, n5⟩ := hT
  obtain ⟨k1, k2, k3, k4, k5, -, -, -, -, k13, k12, k11, -, -⟩ := hK
  unfold pX7_nameHere
  refine lq1_up (n := 11) (I := fun i w => w = v ∧ ∀ j, j < i → nmd b p e t j = false) (Q := fun o => ∃ r : Int32, o = some (r, v) ∧ FF (fun k => nmd b p e t k) 11 r) ?_ ?_ 11 0 F v (by omega) (by omega) ⟨rfl, fun j hj => by omega⟩
  · rintro g w ⟨rfl, h1⟩
    refine ⟨-4, ?_, Or.inr ⟨h1, rfl⟩⟩
    unfold bX7_nameHere_2
    rw [if_pos (show (11 : Int32) ≤ nI 11 by decide)]
  · rintro g i w hi ⟨rfl, h1⟩
    obtain ⟨c1, c2, c3, c4⟩ := cut_b i hi
    by_cases ht : t = 1
    · have hrun : bX7_nameHere_2 F g (nI i) w = if nmd b p e t i = true then some (nI i, w) else g (nI (i + 1)) w := by
        have inner : ∀ a4 : Int32, (a4 = if e - p = lenN i then 1 else 0) → lq2 (bX7_nameHere_51 F (nI i) (jX7_nameHere_106 F (nI i) g)) F a4 0 w = jX7_nameHere_106 F (nI i) g (if nmd b p e t i = true then 1 else 0) w := fun a4 ha => by
          unfold nmd
          rw [decide_eq_true ht, Bool.true_and]
          by_cases hl : e - p = lenN i
          · rw [if_pos hl] at ha
            subst ha
            rw [decide_eq_true hl, Bool.true_and]
            refine lq2_up (n := e - p) (I := fun x y z => z = w ∧ y = if al (fun i' => decide (b (p + i') = letN (cutN i + i'))) x = true then 1 else 0) (Q := fun o => o = jX7_nameHere_106 F (nI i) g (if al (fun i' => decide (b (p + i') = letN (cutN i + i'))) (e - p) = true then 1 else 0) w) ?_ ?_ (e - p) 0 F 1 w (by omega) (by omega) ⟨rfl, rfl⟩
            · rintro g' y z ⟨rfl, rfl⟩
              unfold bX7_nameHere_51
              rw [k11, k12, subI (by omega), if_pos (yle (Nat.le_refl _) (by omega))]
              cases al (fun i' => decide (b (p + i') = letN (cutN i + i'))) (e - p)
              · rw [if_pos (by decide)]
              · rw [if_pos rfl, if_neg (by decide)]
            · rintro g' x y z hx ⟨rfl, rfl⟩
              have lb := let_b (cutN i + x) (by omega)
              have b1 := (n3 (p + x) (by omega)).1
              rcases hq : al (fun i' => decide (b (p + i') = letN (cutN i + i'))) x with _ | _
              · refine Or.inl ?_
                have e0 : al (fun i' => decide (b (p + i') = letN (cutN i + i'))) (e - p) = false := by
                  rcases hq2 : al (fun i' => decide (b (p + i') = letN (cutN i + i'))) (e - p) with _ | _
                  · rfl
                  · rw [al_i (fun j hj => al_t hq2 j (by omega))] at hq
                    exact absurd hq (by decide)
                unfold bX7_nameHere_51
                rw [e0, if_neg (show ¬ false = true by decide), if_pos rfl]
              · refine Or.inr ⟨if b (p + x) = letN (cutN i + x) then 1 else 0, z, ?_, rfl, ?_⟩
                · unfold bX7_nameHere_51
                  rw [if_pos rfl, if_neg (show ¬ (1 : Int32) = 0 by decide), k11, k12, subI (by omega), if_neg (nle hx (by omega)), nI_add, M_byte F z hT' (by omega), bd_s, gd_i (by omega) (by omega), cl (by omega), n4, cut_e i (by omega), nI_add, gd_i (by omega) (by omega), cl (by omega), n5, let_e _ (by omega)]
                  simp only [jn_e, nI_s]
                  rw [ifeq (by omega) (by omega)]
                  by_cases q : b (p + x) = letN (cutN i + x)
                  · rw [if_pos q, if_pos q]
                  · rw [if_neg q, if_neg q]
                · unfold al
                  rw [hq, Bool.true_and]
                  by_cases q : b (p + x) = letN (cutN i + x)
                  · rw [if_pos q, if_pos (decide_eq_true q)]
                  · rw [if_neg q, if_neg (by rw [decide_eq_false q]; decide)]
          · rw [if_neg hl] at ha
            subst ha
            rw [decide_eq_false hl, Bool.false_and, if_neg (show ¬ false = true by decide)]
            obtain ⟨f, hf⟩ : ∃ f, F = f + 1 := ⟨F - 1, by omega⟩
            generalize hg : lq2 (bX7_nameHere_51 F (nI i) (jX7_nameHere_106 F (nI i) g)) F = G
            have hg' : G = lq2 (bX7_nameHere_51 F (nI i) (jX7_nameHere_106 F (nI i) g)) (f + 1) := by rw [← hg]; exact congrArg _ hf
            rw [hg', lq2_s]
            unfold bX7_nameHere_51
            rw [if_pos rfl]
        unfold bX7_nameHere_2
        rw [if_neg (show ¬ (11 : Int32) ≤ nI i from by rw [L11]; exact nle hi (by omega)), k13, if_pos (show nI t = 1 by rw [ht]; rfl), nI_s, gd_i (by omega) (by omega), gd_i (by omega) (by omega), cl (by omega), cl (by omega), n4, cut_e i (by omega), cut_e (i + 1) (by omega), c4, subI (by omega), k11, k12, subI (by omega), show cutN i + lenN i - cutN i = lenN i by omega]
        simp only [jn_e]
        rw [ifeq (by omega) (by omega)]
        have e1 : (if e - p = lenN i then lq2 (bX7_nameHere_51 F (nI i) (jX7_nameHere_106 F (nI i) g)) F 1 0 w else lq2 (bX7_nameHere_51 F (nI i) (jX7_nameHere_106 F (nI i) g)) F 0 0 w) = jX7_nameHere_106 F (nI i) g (if nmd b p e t i = true then 1 else 0) w := by
          by_cases hl : e - p = lenN i
          · rw [if_pos hl, inner 1 (by rw [if_pos hl])]
          · rw [if_neg hl, inner 0 (by rw [if_neg hl])]
        rw [e1]
        unfold jX7_nameHere_106
        rw [nI_s]
        by_cases q : nmd b p e t i = true
        · rw [if_pos q, if_pos q, if_neg (by decide)]
        · rw [if_neg q, if_neg q, if_pos rfl]
      by_cases q : nmd b p e t i = true
      · exact Or.inl ⟨nI i, by rw [hrun, if_pos q], Or.inl ⟨i, hi, q, h1, rfl⟩⟩
      · refine Or.inr ⟨w, by rw [hrun, if_neg q], rfl, fun j hj => ?_⟩
        by_cases z : j = i
        · rw [z]; exact Bool.eq_false_iff.mpr q
        · exact h1 j (by omega)
    · refine Or.inl ⟨-4, ?_, Or.inr ⟨fun m hm => by show nmd b p e t m = false; unfold nmd; rw [decide_eq_false ht, Bool.false_and], rfl⟩⟩
      unfold bX7_nameHere_2
      rw [if_neg (show ¬ (11 : Int32) ≤ nI i from by rw [L11]; exact nle hi (by omega)), k13, if_neg (show ¬ nI t = 1 from by rw [L1]; exact neI ht (by omega) (by omega))]
theorem nm_d : ∀ i, i < 11 → ∀ j, j < 11 → lenN i = lenN j → (∀ x, x < 7 → x < lenN i → letN (cutN i + x) = letN (cutN j + x)) → i = j := by decide +kernel
theorem nm_un {b : Nat → Nat} {p e t i j : Nat} (hi : i < 11) (hj : j < 11) (h1 : nmd b p e t i = true) (h2 : nmd b p e t j = true) : i = j := by
  unfold nmd at h1 h2
  rw [Bool.and_eq_true, Bool.and_eq_true] at h1 h2
  have l1 := of_decide_eq_true h1.2.1
  have l2 := of_decide_eq_true h2.2.1
  refine nm_d i hi j hj (by omega) (fun x _ hx => ?_)
  have a1 := of_decide_eq_true (al_t h1.2.2 x (by omega))
  have a2 := of_decide_eq_true (al_t h2.2.2 x (by omega))
  omega
/-- the name that stands here -/
theorem M_name2 (F : Nat) (hF : 200 ≤ F) {b : Nat → Nat} {n t p e vl : Nat} (u v : St) (hT : TpM b n v) (hK : Tok b n t p e vl u v) : (∃ k, k < 11 ∧ (∀ j, j < 11 → nmd b p e t j = decide (j = k)) ∧ pX7_nameHere F v = some (nI k, v)) ∨ ((∀ j, j < 11 → nmd b p e t j = false) ∧ pX7_nameHere F v = some (-4, v)) := by
  obtain ⟨r, r1, r2⟩ := M_name F hF u v hT hK
  rcases r2 with ⟨k, k1, k2, -, rfl⟩ | ⟨k1, rfl⟩
  · refine Or.inl ⟨k, k1, fun j hj => ?_, r1⟩
    by_cases z : j = k
    · rw [z, decide_eq_true rfl]; exact k2
    · rw [decide_eq_false z]
      rcases hq : nmd b p e t j with _ | _
      · rfl
      · exact absurd (nm_un hj k1 hq k2) z
  · exact Or.inr ⟨k1, r1⟩
end
section
/-! PURE: text: numbers, flames -/
def FrX (u u' : St) : Prop := (∀ k, (k < 12 ∨ k = 16 ∨ k = 17 ∨ 24 ≤ k) → u'.1 k = u.1 k) ∧ ∀ k, (k < 39 ∨ 51 < k) → u'.2 k = u.2 k
def FrM (v v' : St) : Prop := (∀ k, (k < 2 ∨ k = 7 ∨ k = 8 ∨ 15 ≤ k) → v'.1 k = v.1 k) ∧ ∀ k, k ≠ 2 → v'.2 k = v.2 k
theorem FrX.rf {u : St} : FrX u u := ⟨fun _ _ => rfl, fun _ _ => rfl⟩
theorem FrM.rf {v : St} : FrM v v := ⟨fun _ _ => rfl, fun _ _ => rfl⟩
theorem FrX.tr {u w x : St} (h : FrX u w) (h2 : FrX w x) : FrX u x := ⟨fun k q => (h2.1 k q).trans (h.1 k q), fun k q => (h2.2 k q).trans (h.2 k q)⟩
theorem FrM.tr {u w x : St} (h : FrM u w) (h2 : FrM w x) : FrM u x := ⟨fun k q => (h2.1 k q).trans (h.1 k q), fun k q => (h2.2 k q).trans (h.2 k q)⟩
theorem ftX.fr {u u' : St} (h : ftX u u') : FrX u u' := ⟨fun k q => h.1 k (by omega), fun k _ => by rw [h.2]⟩
theorem ftM.fr {v v' : St} (h : ftM v v') : FrM v v' := ⟨fun k q => h.1 k (by omega), fun k _ => by rw [h.2]⟩
theorem fbX.fr {u u' : St} (h : fbX u u') : FrX u u' := ⟨fun k q => h.1 k (by omega), fun k _ => by rw [h.2]⟩
theorem fbM.fr {v v' : St} (h : fbM v v') : FrM v v' := ⟨fun k q => h.1 k (by omega), fun k _ => by rw [h.2]⟩
theorem FrX.tp {b : Nat → Nat} {n : Nat} {u u' : St} (h : FrX u u') (hT : TpX b n u) : TpX b n u' := ⟨hT.1, (h.1 17 (by omega)).trans hT.2.1, fun i hi => by rw [h.2 54 (by omega)]; exact hT.2.2 i hi⟩
theorem FrM.tp {b : Nat → Nat} {n : Nat} {v v' : St} (h : FrM v v') (hT : TpM b n v) : TpM b n v' := hT.fr (h.1 7 (by omega)) (h.2 3 (by omega)) (h.2 4 (by omega)) (h.2 5 (by omega))
theorem FrX.st {u w : St} (h : FrX u w) {k : Nat} (hk : 39 ≤ k ∧ k ≤ 51) (i x : Int32) : FrX u (sta w k i x) := ⟨h.1, fun j hj => by rw [sta_m _ _ _ (by omega)]; exact h.2 j hj⟩
theorem FrM.st {u w : St} (h : FrM u w) (i x : Int32) : FrM u (sta w 2 i x) := ⟨h.1, fun j hj => by rw [sta_m _ _ _ (by omega)]; exact h.2 j hj⟩
theorem FrX.sf {u w : St} (h : FrX u w) {k : Nat} (hk : (12 ≤ k ∧ k ≤ 15) ∨ (18 ≤ k ∧ k ≤ 23)) (x : Int32) : FrX u (stf w k x) := ⟨fun j hj => by rw [stf_1, if_neg (by omega)]; exact h.1 j hj, h.2⟩
theorem FrM.sf {u w : St} (h : FrM u w) {k : Nat} (hk : (2 ≤ k ∧ k ≤ 6) ∨ (9 ≤ k ∧ k ≤ 14)) (x : Int32) : FrM u (stf w k x) := ⟨fun j hj => by rw [stf_1, if_neg (by omega)]; exact h.1 j hj, h.2⟩
/-- what the reference does once it has stopped -/
theorem M_stepB (F : Nat) {k : Nat} (v : St) (h : v.1 9 = nI k) (h0 : 0 < k) (h1 : k < 10) : pX7_step F v = some ((), v) := by
  unfold pX7_step
  rw [h, if_neg (show ¬ nI k ≤ 0 from by rw [L0]; exact nle h0 (by omega))]
theorem M_numB (F : Nat) {k : Nat} (v : St) (lo hi : Int32) (h : v.1 9 = nI k) (h0 : 0 < k) (h1 : k < 10) : pX7_number F lo hi v = some (lo, v) := by
  have e : ¬ v.1 9 = 0 := by rw [h]; exact n0f (by omega) (by omega)
  unfold pX7_number
  simp only [jn_e, if_neg e]
  rw [M_stepB F v h h0 h1, bd_s]
theorem M_flameB (F : Nat) {k : Nat} (v : St) (at_ : Int32) (h : v.1 9 = nI k) (h0 : 0 < k) (h1 : k < 10) : pX7_readFlame F at_ v = some ((), v) := by
  unfold pX7_readFlame
  simp only [jn_e]
  rw [h, if_neg (show ¬ nI k ≤ 0 from by rw [L0]; exact nle h0 (by omega)), show (3 : Int64) = lN 3 from by decide +kernel, l0, M_inbN F v (by omega) (by omega), bd_s, i00, M_failsN F v 2 h h0 h1, bd_s]
/-- a number is looked at: on both sides -/
def chk (F : Nat) (lo hi : Int32) (u : St) : Option (Int32 × St) := if (u.1 20) = 2 then bd (pX2_isNumberIn F lo hi u) (fun (r6 : Int32) (u5 : St) => gd (z01 r6) (some (r6, u5))) else bd (pX2_fails F 2 u) (fun (r4 : Int32) (u3 : St) => gd (z01 r4) (some (r4, u3)))
theorem X_rnum (F : Nat) (lo hi : Int32) (u : St) : pX2_readsNumber F lo hi u = bd (pX2_readsNext F u) (fun (r2 : Int32) (u1 : St) => if r2 = 0 then some (0, u1) else chk F lo hi u1) := rfl
theorem X_isNum (F : Nat) {lo hi vl : Nat} (u : St) (h : u.1 23 = nI vl) (hv : vl < 1000) (hl : lo < 1000) (hh : hi < 1000) : pX2_isNumberIn F (nI lo) (nI hi) u = if lo ≤ vl ∧ vl ≤ hi then some (1, u) else some (0, stf u 18 3) := by
  unfold pX2_isNumberIn pX2_fails
  rw [h, X_isIn, tI64, tI (by omega), tI (by omega), tI (by omega), bd_s]
  by_cases q : lo ≤ vl ∧ vl ≤ hi
  · rw [b01_t (by omega), i10, if_pos q]
  · rw [b01_f (by omega), i00, vl_e, bd_s, i00, if_neg q]
theorem M_num (F : Nat) {b : Nat → Nat} {n t p e vl lo hi : Nat} (u v : St) (hK : Tok b n t p e vl u v) (hl : lo < 1000) (hh : hi < 1000) : pX7_number F (nI lo) (nI hi) v = if t = 2 ∧ lo ≤ vl ∧ vl ≤ hi then bd (pX7_step F v) (fun (_ : Unit) (u5 : St) => some (nI vl, u5)) else some (nI lo, stf (stf v 9 (if t = 2 then 3 else 2)) 10 (nI p)) := by
  obtain ⟨k1, k2, k3, k4, k5, -, -, -, -, k13, k12, k11, k14, k9⟩ := hK
  have z9 : v.1 9 = 0 := k9
  unfold pX7_number
  simp only [jn_e]
  rw [z9, if_pos rfl, k13, L2, ifeq (by omega) (by omega)]
  by_cases ht : t = 2
  · rw [if_pos ht, if_pos rfl, k14, M_in, tI64, tI (by omega), tI64, tI64, tI (by omega), tI (by omega), bd_s]
    by_cases q : lo ≤ vl ∧ vl ≤ hi
    · rw [b01_t (by omega), i10, if_pos z9, k14, if_pos ⟨ht, q⟩]
    · have e9 : (stf (stf v 9 3) 10 (nI p)).1 9 = nI 3 := by rw [sf_n _ _ _ (by omega), sf_k]; rfl
      rw [b01_f (by omega), i00, M_fails F v 3 k9 k12, bd_s, e9, if_neg (show ¬ nI 3 = 0 by decide), M_stepB F _ e9 (by omega) (by omega), bd_s, if_neg (fun z => q z.2), if_pos ht]
  · have e9 : (stf (stf v 9 (nI 2)) 10 (nI p)).1 9 = nI 2 := by rw [sf_n _ _ _ (by omega), sf_k]
    rw [if_neg ht, M_fails F v (nI 2) k9 k12, bd_s, e9, if_neg (show ¬ nI 2 = 0 by decide), if_neg (show ¬ nI 2 = 0 by decide), M_stepB F _ e9 (by omega) (by omega), bd_s, if_neg (fun z => ht z.1), if_neg ht]
theorem chkT (F : Nat) {b : Nat → Nat} {n t p e vl lo hi : Nat} (u v : St) (hX : TpX b n u) (hK : Tok b n t p e vl u v) (hl : lo < 1000) (hh : hi < 1000) : (t = 2 ∧ lo ≤ vl ∧ vl ≤ hi ∧ chk F (nI lo) (nI hi) u = some (1, u) ∧ pX7_number F (nI lo) (nI hi) v = bd (pX7_step F v) (fun (_ : Unit) (u5 : St) => some (nI vl, u5))) ∨ (∃ k u' v', chk F (nI lo) (nI hi) u = some (0, u') ∧ pX7_number F (nI lo) (nI hi) v = some (nI lo, v') ∧ Bad k p u' v' ∧ FrX u u' ∧ FrM v v') := by
  have hm := M_num F (lo := lo) (hi := hi) u v hK hl hh
  have n1 := hX.1
  obtain ⟨k1, k2, k3, k4, k5, k20, k21, k22, k23, k13, k12, k11, k14, k9⟩ := hK
  unfold chk
  rw [k20, L2, ifeq (by omega) (by omega)]
  by_cases ht : t = 2
  · rw [if_pos ht, X_isNum F u (k23 ht) (by omega) hl hh]
    by_cases q : lo ≤ vl ∧ vl ≤ hi
    · rw [if_pos ⟨ht, q⟩] at hm
      rw [if_pos q, bd_s, z01_1, gd_true]
      exact Or.inl ⟨ht, q.1, q.2, rfl, hm⟩
    · rw [if_neg (fun z => q z.2), if_pos ht] at hm
      rw [if_neg q, bd_s, z01_0, gd_true]
      refine Or.inr ⟨3, _, _, rfl, hm, ⟨by omega, by omega, by omega, Or.inl (by rw [sf_k]; rfl), by rw [sf_n _ _ _ (by omega)]; exact k21, by rw [sf_n _ _ _ (by omega), sf_k]; rfl, by rw [sf_k]⟩, FrX.rf.sf (by omega) _, (FrM.rf.sf (by omega) _).sf (by omega) _⟩
  · rw [if_neg (fun z => ht z.1), if_neg ht] at hm
    unfold pX2_fails
    rw [if_neg ht, vl_e, bd_s, z01_0, gd_true]
    refine Or.inr ⟨2, _, _, rfl, hm, ⟨by omega, by omega, by omega, Or.inl (by rw [sf_k]), by rw [sf_n _ _ _ (by omega)]; exact k21, by rw [sf_n _ _ _ (by omega), sf_k]; rfl, by rw [sf_k]⟩, FrX.rf.sf (by omega) _, (FrM.rf.sf (by omega) _).sf (by omega) _⟩
/-- the name that stands: K, or 11 -/
theorem nameK (F : Nat) (hF : 200 ≤ F) {b : Nat → Nat} {n t p e vl : Nat} (u v : St) (hX : TpX b n u) (hM : TpM b n v) (hK : Tok b n t p e vl u v) : ∃ K, K ≤ 11 ∧ (∀ x, x < 11 → pX2_isNamed F x u = some (if xm x = K then 1 else 0, u)) ∧ pX7_nameHere F v = some (if K = 11 then -4 else nI K, v) := by
  have hxn := fun x hx => X_named F hF (x := x) u v hX hK hx
  rcases M_name2 F hF u v hM hK with ⟨k, k1, k2, k3⟩ | ⟨k2, k3⟩
  · refine ⟨k, by omega, fun x hx => ?_, by rw [if_neg (by omega)]; exact k3⟩
    rw [hxn x hx, k2 _ (xm_b x hx)]
    by_cases q : xm x = k
    · rw [if_pos q, if_pos (decide_eq_true q)]
    · rw [if_neg q, if_neg (by rw [decide_eq_false q]; decide)]
  · refine ⟨11, by omega, fun x hx => ?_, by rw [if_pos rfl]; exact k3⟩
    have := xm_b x hx
    rw [hxn x hx, k2 _ this, if_neg (by decide), if_neg (by omega)]
theorem X_kind (F : Nat) {K : Nat} (u : St) (hK : K ≤ 11) (h : ∀ x, x < 11 → pX2_isNamed F x u = some (if xm x = K then 1 else 0, u)) : pX2_kindNamed F u = some (if K < 4 then nI K else -4, u) := by
  unfold pX2_kindNamed
  rw [h 1 (by omega), bd_s, show xm 1 = 0 from rfl]
  by_cases h0 : K = 0
  · subst h0; rfl
  · rw [if_neg (show ¬ 0 = K by omega), i00, h 2 (by omega), bd_s, show xm 2 = 1 from rfl]
    by_cases h1 : K = 1
    · subst h1; rfl
    · rw [if_neg (show ¬ 1 = K by omega), i00, h 3 (by omega), bd_s, show xm 3 = 2 from rfl]
      by_cases h2 : K = 2
      · subst h2; rfl
      · rw [if_neg (show ¬ 2 = K by omega), i00, h 4 (by omega), bd_s, show xm 4 = 3 from rfl]
        by_cases h3 : K = 3
        · subst h3; rfl
        · rw [if_neg (show ¬ 3 = K by omega), i00, if_neg (by omega)]
theorem X_habit (F : Nat) {K : Nat} (u : St) (hK : K ≤ 11) (h : ∀ x, x < 11 → pX2_isNamed F x u = some (if xm x = K then 1 else 0, u)) : pX2_habitNamed F u = some (if 4 ≤ K ∧ K < 8 then nI (K - 4) else -4, u) := by
  unfold pX2_habitNamed
  rw [h 7 (by omega), bd_s, show xm 7 = 4 from rfl]
  by_cases h0 : K = 4
  · subst h0; rfl
  · rw [if_neg (show ¬ 4 = K by omega), i00, h 8 (by omega), bd_s, show xm 8 = 5 from rfl]
    by_cases h1 : K = 5
    · subst h1; rfl
    · rw [if_neg (show ¬ 5 = K by omega), i00, h 9 (by omega), bd_s, show xm 9 = 6 from rfl]
      by_cases h2 : K = 6
      · subst h2; rfl
      · rw [if_neg (show ¬ 6 = K by omega), i00, h 10 (by omega), bd_s, show xm 10 = 7 from rfl]
        by_cases h3 : K = 7
        · subst h3; rfl
        · rw [if_neg (show ¬ 7 = K by omega), i00, if_neg (by omega)]
/-- a flame: what stands in both afterwards -/
theorem flameT (F : Nat) (hF : 200 ≤ F) {b : Nat → Nat} {n t p e vu a : Nat} {R : Nat → Nat} (u v : St) (hX : TpX b n u) (hM : TpM b n v) (hK : Tok b n t p e vu u v) (ha : a < 8) (hR : ∀ k, k < 68 → v.2 2 k = nI (R k)) (h18 : u.1 18 = nI 0) (h16 : R (16 + a) = 0) :
    (∃ (R' : Nat → Nat) (t' p' e' vl' : Nat) (u' v' : St), pX2_takesFlame F (nI a) u = some (1, u') ∧ pX7_readFlame F (nI a) v = some ((), v') ∧ Tok b n t' p' e' vl' u' v' ∧ e ≤ p' ∧ (∀ k, k < 68 → v'.2 2 k = nI (R' k)) ∧ u'.1 18 = nI 0 ∧ (∀ k, k ≠ a → k ≠ 8 + a → k ≠ 16 + a → R' k = R k) ∧ (R' a ≤ 3 ∧ R' (8 + a) ≤ 99 ∧ R' (16 + a) ≤ 9) ∧ (u'.2 39 a = nI (R' a) ∧ u'.2 40 a = nI (R' (8 + a)) ∧ u'.2 41 a = nI (R' (16 + a))) ∧ (∀ k f, f ≠ a → u'.2 k f = u.2 k f) ∧ (∀ k, k ≠ 39 → k ≠ 40 → k ≠ 41 → u'.2 k = u.2 k) ∧ (∀ k, (k < 20 ∨ 23 < k) → u'.1 k = u.1 k) ∧ (∀ k, k < 9 → v'.1 k = v.1 k) ∧ FrX u u' ∧ FrM v v') ∨
    (∃ k q u' v', pX2_takesFlame F (nI a) u = some (0, u') ∧ pX7_readFlame F (nI a) v = some ((), v') ∧ Bad k q u' v' ∧ FrX u u' ∧ FrM v v') := by
  obtain ⟨K, hK11, hxn, hmn⟩ := nameK F hF u v hX hM hK
  have n1 := hX.1
  have hk := X_kind F u hK11 hxn
  have hK' := hK
  obtain ⟨k1, k2, k3, k4, k5, k20, k21, k22, k23, k13, k12, k11, k14, k9⟩ := hK
  have hin : pX7_in F (Int32.toInt64 (if K = 11 then -4 else nI K)) 0 3 v = some (b01 (K ≤ 3), v) := by
    rw [l0, show (3 : Int64) = lN 3 from by decide +kernel]
    by_cases q : K = 11
    · rw [if_pos q, M_inbN F v (by omega) (by omega), b01_f (by omega)]
    · rw [if_neg q, M_inb F (by omega) v (by omega) (by omega)]
      by_cases z : K ≤ 3
      · rw [b01_t z, b01_t ⟨by omega, z⟩]
      · rw [b01_f z, b01_f (by omega)]
  have hMh : pX7_readFlame F (nI a) v = if K ≤ 3 then gd (inb (nI a) 68) (vl (sta v 2 (nI a) (nI K)) (fun (u5 : St) => bd (pX7_step F u5) (fun (_ : Unit) (u6 : St) => bd (pX7_number F 0 99 u6) (fun (r8 : Int32) (u7 : St) => gd (inb (8 + nI a) 68) (vl (sta u7 2 (8 + nI a) r8) (fun (u9 : St) => if (u9.1 9) = 0 then if (u9.1 13) = 2 then bd (pX7_number F 0 9 u9) (fun (r11 : Int32) (u10 : St) => gd (inb (16 + nI a) 68) (vl (sta u10 2 (16 + nI a) r11) (fun (u12 : St) => some ((), u12)))) else some ((), u9) else some ((), u9))))))) else some ((), stf (stf v 9 2) 10 (nI p)) := by
    unfold pX7_readFlame
    simp only [jn_e]
    rw [k9, if_pos (show nI 0 ≤ 0 by decide), hmn, bd_s, hin, bd_s]
    by_cases z : K ≤ 3
    · rw [b01_t z, i10, if_pos z, if_neg (show ¬ K = 11 by omega)]
    · rw [b01_f z, i00, if_neg z, M_fails F v 2 k9 k12, bd_s]
  by_cases hK3 : K ≤ 3
  · rw [if_pos hK3, gd_i (by omega) (by omega), vl_e] at hMh
    have v1T : TpM b n (sta v 2 (nI a) (nI K)) := (FrM.rf.st _ _).tp hM
    have hX1 : pX2_takesFlame F (nI a) u = bd (pX2_readsNumber F 0 99 u) (fun (r4 : Int32) (u3 : St) => if r4 = 0 then some (0, u3) else gd (inb (nI a) 8) (vl (sta u3 39 (nI a) (nI K)) (fun (u5 : St) => gd (inb (nI a) 8) (vl (sta u5 40 (nI a) (u5.1 23)) (fun (u6 : St) => gd (inb (nI a) 8) (vl (sta u6 41 (nI a) 0) (fun (u7 : St) => bd (pX2_readsNext F u7) (fun (r9 : Int32) (u8 : St) => if r9 = 0 then some (0, u8) else if (u8.1 20) = 2 then gd (inb (nI a) 8) (vl (sta u8 41 (nI a) (u8.1 23)) (fun (u10 : St) => bd (pX2_isNumberIn F 0 9 u10) (fun (r12 : Int32) (u11 : St) => if r12 = 0 then some (0, u11) else bd (pX2_readsNext F u11) (fun (r14 : Int32) (u13 : St) => if r14 = 0 then some (0, u13) else some (1, u13))))) else some (1, u8))))))))) := by
      unfold pX2_takesFlame
      rw [hk, bd_s, if_pos (show K < 4 by omega), if_neg (m4_lt (by omega)).2.1]
    rcases next2 F hF u (sta v 2 (nI a) (nI K)) hX v1T k3 k22 k11 k9 with ⟨t1, p1, e1, vl1, u1, v1, g1, g2, g3, g4, g5, g6⟩ | ⟨q, u1, v1, g1, g2, g3, g5, g6⟩
    · have fX1 : FrX u u1 := g5.fr
      have fM1 : FrM v v1 := (FrM.rf.st _ _).tr g6.fr
      have hT1 := fX1.tp hX
      have hN1 := fM1.tp hM
      rcases chkT F (lo := 0) (hi := 99) u1 v1 hT1 g3 (by omega) (by omega) with ⟨c1, c2, c3, c4, c5⟩ | ⟨k, u2, v2, c1, c2, c3, c4, c5⟩
      · have c4' : chk F 0 99 u1 = some (1, u1) := c4
        have c5' : pX7_number F 0 99 v1 = bd (pX7_step F v1) (fun (_ : Unit) (u5 : St) => some (nI vl1, u5)) := c5
        obtain ⟨u2, hu2⟩ : ∃ u2, u2 = sta (sta (sta u1 39 (nI a) (nI K)) 40 (nI a) (nI vl1)) 41 (nI a) 0 := ⟨_, rfl⟩
        have fX2 : FrX u u2 := by rw [hu2]; exact ((fX1.st (by omega) _ _).st (by omega) _ _).st (by omega) _ _
        have hT2 := fX2.tp hX
        obtain ⟨j1, j2, j3, j4, j5, j20, j21, j22, j23, j13, j12, j11, j14, j9⟩ := g3
        have u21 : u2.1 = u1.1 := by rw [hu2]; rfl
        have hX2 : pX2_takesFlame F (nI a) u = bd (pX2_readsNext F u2) (fun (r9 : Int32) (u8 : St) => if r9 = 0 then some (0, u8) else if (u8.1 20) = 2 then gd (inb (nI a) 8) (vl (sta u8 41 (nI a) (u8.1 23)) (fun (u10 : St) => bd (pX2_isNumberIn F 0 9 u10) (fun (r12 : Int32) (u11 : St) => if r12 = 0 then some (0, u11) else bd (pX2_readsNext F u11) (fun (r14 : Int32) (u13 : St) => if r14 = 0 then some (0, u13) else some (1, u13))))) else some (1, u8)) := by
          rw [hX1, X_rnum, g1, bd_s, i10, c4', bd_s, i10, gd_i (by omega) (by omega), vl_e, gd_i (by omega) (by omega), vl_e, gd_i (by omega) (by omega), vl_e, sta_1, j23 c1, ← hu2]
        have o39 : u2.2 39 a = nI K := by rw [hu2, sta_m _ _ _ (by omega), sta_m _ _ _ (by omega), sta_h _ _ (by omega), if_pos rfl]
        have o40 : u2.2 40 a = nI vl1 := by rw [hu2, sta_m _ _ _ (by omega), sta_h _ _ (by omega), if_pos rfl]
        have o41 : u2.2 41 a = nI 0 := by rw [hu2, sta_h _ _ (by omega), if_pos rfl]; rfl
        have oo : ∀ k f, f ≠ a → u2.2 k f = u.2 k f := fun k f hf => by
          rw [hu2]
          by_cases z1 : k = 41
          · rw [z1, sta_h _ _ (by omega), if_neg hf, sta_m _ _ _ (by omega), sta_m _ _ _ (by omega), g5.2]
          · rw [sta_m _ _ _ z1]
            by_cases z2 : k = 40
            · rw [z2, sta_h _ _ (by omega), if_neg hf, sta_m _ _ _ (by omega), g5.2]
            · rw [sta_m _ _ _ z2]
              by_cases z3 : k = 39
              · rw [z3, sta_h _ _ (by omega), if_neg hf, g5.2]
              · rw [sta_m _ _ _ z3, g5.2]
        have om : ∀ k, k ≠ 39 → k ≠ 40 → k ≠ 41 → u2.2 k = u.2 k := fun k h1 h2 h3 => by rw [hu2, sta_m _ _ _ h3, sta_m _ _ _ h2, sta_m _ _ _ h1, g5.2]
        have R1 : ∀ k, k < 68 → v1.2 2 k = nI (pu R a K k) := fun k hk => by
          rw [g6.2, sta_h _ _ (by omega)]
          exact puI (hR k hk) _ Iff.rfl
        rcases next2 F hF u2 v1 hT2 hN1 j3 (by rw [u21]; exact j22) j11 j9 with ⟨t3, p3, e3, vl3, u3, v3, s1, s2, s3, s4, s5, s6⟩ | ⟨q, u3, v3, s1, s2, s3, s5, s6⟩
        · have fX3 : FrX u u3 := fX2.tr s5.fr
          have fM3 : FrM v v3 := fM1.tr s6.fr
          have s3' := s3
          obtain ⟨r1, r2, r3, r4, r5, r20, r21, r22, r23, r13, r12, r11, r14, r9⟩ := s3
          have hM2 : pX7_readFlame F (nI a) v = if t3 = 2 then bd (pX7_number F 0 9 (sta v3 2 (nI (8 + a)) (nI vl1))) (fun (r11 : Int32) (u10 : St) => some ((), sta u10 2 (nI (16 + a)) r11)) else some ((), sta v3 2 (nI (8 + a)) (nI vl1)) := by
            rw [hMh, g2, bd_s, c5', s2, bd_s, bd_s, at8, gd_i (by omega) (by omega), vl_e, sta_1, r9, if_pos (show nI 0 = 0 from rfl), r13, L2, ifeq (by omega) (by omega)]
            by_cases z : t3 = 2
            · rw [if_pos z, if_pos z]
              have e16 : ∀ w r, gd (inb (16 + nI a) 68) (vl (sta w 2 (16 + nI a) r) (fun (u12 : St) => some ((), u12))) = some ((), sta w 2 (nI (16 + a)) r) := fun w r => by
                rw [at16, gd_i (by omega) (by omega), vl_e]
              simp only [e16]
            · rw [if_neg z, if_neg z]
          have R3 : ∀ k, k < 68 → (sta v3 2 (nI (8 + a)) (nI vl1)).2 2 k = nI (pu (pu R a K) (8 + a) vl1 k) := fun k hk => by
            rw [sta_h _ _ (by omega), s6.2]
            exact puI (R1 k hk) _ Iff.rfl
          have s3v : Tok b n t3 p3 e3 vl3 u3 (sta v3 2 (nI (8 + a)) (nI vl1)) := s3'
          have h18' : u3.1 18 = nI 0 := by rw [s5.1 18 (by omega), u21, g5.1 18 (by omega)]; exact h18
          by_cases ht3 : t3 = 2
          · -- a guard is told
            rw [if_pos ht3] at hM2
            have u4T : TpX b n (sta u3 41 (nI a) (nI vl3)) := (fX3.st (by omega) _ _).tp hX
            have s4k : Tok b n t3 p3 e3 vl3 (sta u3 41 (nI a) (nI vl3)) (sta v3 2 (nI (8 + a)) (nI vl1)) := s3'
            have fM4 : FrM v (sta v3 2 (nI (8 + a)) (nI vl1)) := fM3.st _ _
            have hX3 : pX2_takesFlame F (nI a) u = bd (chk F 0 9 (sta u3 41 (nI a) (nI vl3))) (fun (r12 : Int32) (u11 : St) => if r12 = 0 then some (0, u11) else bd (pX2_readsNext F u11) (fun (r14 : Int32) (u13 : St) => if r14 = 0 then some (0, u13) else some (1, u13))) := by
              have ec : chk F 0 9 (sta u3 41 (nI a) (nI vl3)) = pX2_isNumberIn F 0 9 (sta u3 41 (nI a) (nI vl3)) := by
                unfold chk
                rw [sta_1, r20, ht3, if_pos (show nI 2 = 2 from rfl)]
                have := X_isNum F (lo := 0) (hi := 9) (sta u3 41 (nI a) (nI vl3)) (r23 ht3) (by omega) (by omega) (by omega)
                have this' : pX2_isNumberIn F 0 9 (sta u3 41 (nI a) (nI vl3)) = if 0 ≤ vl3 ∧ vl3 ≤ 9 then some (1, sta u3 41 (nI a) (nI vl3)) else some (0, stf (sta u3 41 (nI a) (nI vl3)) 18 3) := this
                rw [this']
                by_cases z : 0 ≤ vl3 ∧ vl3 ≤ 9
                · rw [if_pos z, bd_s, z01_1, gd_true]
                · rw [if_neg z, bd_s, z01_0, gd_true]
              rw [hX2, s1, bd_s, i10, r20, if_pos (show nI t3 = 2 by rw [ht3]; rfl), gd_i (by omega) (by omega), vl_e, r23 ht3, ec]
            rcases chkT F (lo := 0) (hi := 9) (sta u3 41 (nI a) (nI vl3)) (sta v3 2 (nI (8 + a)) (nI vl1)) u4T s4k (by omega) (by omega) with ⟨d1, d2, d3, d4, d5⟩ | ⟨k, u5, v5, d1, d2, d3, d4, d5⟩
            · have d4' : chk F 0 9 (sta u3 41 (nI a) (nI vl3)) = some (1, sta u3 41 (nI a) (nI vl3)) := d4
              have d5' : pX7_number F 0 9 (sta v3 2 (nI (8 + a)) (nI vl1)) = bd (pX7_step F (sta v3 2 (nI (8 + a)) (nI vl1))) (fun (_ : Unit) (u5 : St) => some (nI vl3, u5)) := d5
              rcases next2 F hF (sta u3 41 (nI a) (nI vl3)) (sta v3 2 (nI (8 + a)) (nI vl1)) u4T (fM4.tp hM) r3 r22 r11 r9 with ⟨t5, p5, e5, vl5, u5, v5, w1, w2, w3, w4, w5, w6⟩ | ⟨q, u5, v5, w1, w2, w3, w5, w6⟩
              · have lo39 : u5.2 = (sta u3 41 (nI a) (nI vl3)).2 := w5.2
                refine Or.inl ⟨pu (pu (pu R a K) (8 + a) vl1) (16 + a) vl3, t5, p5, e5, vl5, u5, sta v5 2 (nI (16 + a)) (nI vl3), ?_, ?_, w3, by omega, fun k hk => ?_, ?_, fun k h1 h2 h3 => by rw [pu_n _ h3, pu_n _ h2, pu_n _ h1], ⟨?_, ?_, ?_⟩, ⟨?_, ?_, ?_⟩, fun k f hf => ?_, fun k h1 h2 h3 => ?_, fun k hk => ?_, fun k hk => ?_, (fX3.st (by omega) _ _).tr w5.fr, (fM4.tr w6.fr).st _ _⟩
                · rw [hX3, d4', bd_s, i10, w1, bd_s, i10]
                · rw [hM2, d5', w2, bd_s, bd_s]
                · rw [sta_h _ _ (by omega), w6.2]
                  exact puI (R3 k hk) _ Iff.rfl
                · rw [w5.1 18 (by omega)]; exact h18'
                · rw [pu_n _ (by omega), pu_n _ (by omega), pu_s]; exact hK3
                · rw [pu_n _ (by omega), pu_s]; exact c3
                · rw [pu_s]; exact d3
                · rw [pu_n _ (by omega), pu_n _ (by omega), pu_s, lo39, sta_m _ _ _ (by omega), s5.2]; exact o39
                · rw [pu_n _ (by omega), pu_s, lo39, sta_m _ _ _ (by omega), s5.2]; exact o40
                · rw [pu_s, lo39, sta_h _ _ (by omega), if_pos rfl]
                · rw [lo39]
                  by_cases z : k = 41
                  · rw [z, sta_h _ _ (by omega), if_neg hf, s5.2]; exact oo 41 f hf
                  · rw [sta_m _ _ _ z, s5.2]; exact oo k f hf
                · rw [lo39, sta_m _ _ _ h3, s5.2]; exact om k h1 h2 h3
                · rw [w5.1 k hk, sta_1, s5.1 k hk, u21, g5.1 k hk]
                · rw [sta_1, w6.1 k (by omega), sta_1, s6.1 k (by omega), g6.1 k (by omega), sta_1]
              · obtain ⟨z0, z1, z2, z18, z21, z9, z10⟩ := w3
                refine Or.inr ⟨1, q, u5, sta v5 2 (nI (16 + a)) (nI vl3), ?_, ?_, ⟨z0, z1, z2, z18, z21, z9, z10⟩, (fX3.st (by omega) _ _).tr w5.fr, (fM4.tr w6.fr).st _ _⟩
                · rw [hX3, d4', bd_s, i10, w1, bd_s, i00]
                · rw [hM2, d5', w2, bd_s, bd_s]
            · have d1' : chk F 0 9 (sta u3 41 (nI a) (nI vl3)) = some (0, u5) := d1
              have d2' : pX7_number F 0 9 (sta v3 2 (nI (8 + a)) (nI vl1)) = some (nI 0, v5) := d2
              obtain ⟨z0, z1, z2, z18, z21, z9, z10⟩ := d3
              refine Or.inr ⟨k, p3, u5, sta v5 2 (nI (16 + a)) (nI 0), ?_, ?_, ⟨z0, z1, z2, z18, z21, z9, z10⟩, (fX3.st (by omega) _ _).tr d4, (fM4.tr d5).st _ _⟩
              · rw [hX3, d1', bd_s, i00]
              · rw [hM2, d2', bd_s]
          · rw [if_neg ht3] at hM2
            refine Or.inl ⟨pu (pu R a K) (8 + a) vl1, t3, p3, e3, vl3, u3, sta v3 2 (nI (8 + a)) (nI vl1), ?_, hM2, s3v, by omega, R3, h18', fun k h1 h2 h3 => by rw [pu_n _ h2, pu_n _ h1], ⟨?_, ?_, ?_⟩, ⟨?_, ?_, ?_⟩, fun k f hf => ?_, fun k h1 h2 h3 => ?_, fun k hk => ?_, fun k hk => ?_, fX3, fM3.st _ _⟩
            · rw [hX2, s1, bd_s, i10, r20, if_neg (show ¬ nI t3 = 2 from by rw [L2]; exact neI ht3 (by omega) (by omega))]
            · rw [pu_n _ (by omega), pu_s]; exact hK3
            · rw [pu_s]; exact c3
            · rw [pu_n _ (by omega), pu_n _ (by omega), h16]; omega
            · rw [pu_n _ (by omega), pu_s, s5.2]; exact o39
            · rw [pu_s, s5.2]; exact o40
            · rw [pu_n _ (by omega), pu_n _ (by omega), h16, s5.2]; exact o41
            · rw [s5.2]; exact oo k f hf
            · rw [s5.2]; exact om k h1 h2 h3
            · rw [s5.1 k hk, u21, g5.1 k hk]
            · rw [sta_1, s6.1 k (by omega), g6.1 k (by omega), sta_1]
        · obtain ⟨z0, z1, z2, z18, z21, z9, z10⟩ := s3
          refine Or.inr ⟨1, q, u3, sta v3 2 (nI (8 + a)) (nI vl1), ?_, ?_, ⟨z0, z1, z2, z18, z21, z9, z10⟩, fX2.tr s5.fr, (fM1.tr s6.fr).st _ _⟩
          · rw [hX2, s1, bd_s, i00]
          · rw [hMh, g2, bd_s, c5', s2, bd_s, bd_s, at8, gd_i (by omega) (by omega), vl_e, sta_1, z9, if_neg (show ¬ nI 1 = 0 by decide)]
      · have c1' : chk F 0 99 u1 = some (0, u2) := c1
        have c2' : pX7_number F 0 99 v1 = some (nI 0, v2) := c2
        obtain ⟨z0, z1, z2, z18, z21, z9, z10⟩ := c3
        refine Or.inr ⟨k, p1, u2, sta v2 2 (nI (8 + a)) (nI 0), ?_, ?_, ⟨z0, z1, z2, z18, z21, z9, z10⟩, fX1.tr c4, (fM1.tr c5).st _ _⟩
        · rw [hX1, X_rnum, g1, bd_s, i10, c1', bd_s, i00]
        · rw [hMh, g2, bd_s, c2', bd_s, at8, gd_i (by omega) (by omega), vl_e, sta_1, z9, if_neg (n0f (by omega) (by omega))]
    · obtain ⟨z0, z1, z2, z18, z21, z9, z10⟩ := g3
      refine Or.inr ⟨1, q, u1, sta v1 2 (nI (8 + a)) 0, ?_, ?_, ⟨z0, z1, z2, z18, z21, z9, z10⟩, g5.fr, ((FrM.rf.st _ _).tr g6.fr).st _ _⟩
      · rw [hX1, X_rnum, g1, bd_s, i00, bd_s, i00]
      · rw [hMh, g2, bd_s, M_numB F v1 0 99 z9 (by omega) (by omega), bd_s, at8, gd_i (by omega) (by omega), vl_e, sta_1, z9, if_neg (show ¬ nI 1 = 0 by decide)]
  · rw [if_neg hK3] at hMh
    refine Or.inr ⟨2, p, stf u 18 2, _, ?_, hMh, ⟨by omega, by omega, by omega, Or.inl (by rw [sf_k]; rfl), by rw [sf_n _ _ _ (by omega)]; exact k21, by rw [sf_n _ _ _ (by omega), sf_k]; rfl, by rw [sf_k]⟩, FrX.rf.sf (by omega) _, (FrM.rf.sf (by omega) _).sf (by omega) _⟩
    unfold pX2_takesFlame pX2_fails
    rw [hk, bd_s, if_neg (show ¬ K < 4 by omega), if_pos rfl, vl_e, bd_s, z01_0, gd_true]
end
section
/-! PURE: text: what is told so far -/
def BD (R : Nat → Nat) (rc rj : Nat) : Prop := R 46 ≤ 4 ∧ R 55 ≤ 6 ∧ (∀ f, f < 2 * rc → R f ≤ 3 ∧ R (8 + f) ≤ 99 ∧ R (16 + f) ≤ 9) ∧ (∀ k, 24 ≤ k → k < 40 → R k = 0) ∧ (∀ j, j < rj → R (40 + j) ≤ 3 ∧ 1 ≤ R (43 + j) ∧ R (43 + j) ≤ 9) ∧ (∀ i, i < R 46 → R (47 + i) ≤ 20 ∧ 1 ≤ R (51 + i) ∧ R (51 + i) ≤ 9) ∧ (∀ i, i < R 55 → R (56 + i) ≤ 3 ∧ R (62 + i) ≤ 2)
def HI (R : Nat → Nat) (h5 h6 : Nat) : Prop := h5 ≤ 4 ∧ h6 ≤ 3 ∧ (∀ i, i < R 55 → R (56 + i) < h5 ∧ R (62 + i) < h6) ∧ (h5 = 0 ∨ ∃ i, i < R 55 ∧ R (56 + i) + 1 = h5) ∧ (h6 = 0 ∨ ∃ i, i < R 55 ∧ R (62 + i) + 1 = h6)
def Z0 (R : Nat → Nat) (m : Nat) : Prop := ∀ f, m ≤ f → f < 8 → R (16 + f) = 0
def TR (b : Nat → Nat) (n : Nat) (R : Nat → Nat) (rc rj dt h5 h6 : Nat) (u v : St) : Prop := TpX b n u ∧ TpM b n v ∧ (rc ≤ 4 ∧ rj ≤ 3 ∧ dt ≤ 1 ∧ (dt = 0 → R 55 = 0)) ∧ BD R rc rj ∧ HI R h5 h6 ∧ CtX 3 rc rj R u ∧ (u.1 18 = nI 0 ∧ u.1 19 = nI dt) ∧ (∀ k, k < 68 → v.2 2 k = nI (R k)) ∧ v.1 2 = nI rc ∧ v.1 3 = nI rj ∧ v.1 4 = nI dt ∧ v.1 5 = nI h5 - 1 ∧ v.1 6 = nI h6 - 1
theorem TR.ft {b : Nat → Nat} {n : Nat} {R : Nat → Nat} {rc rj dt h5 h6 : Nat} {u v u' v' : St} (h : TR b n R rc rj dt h5 h6 u v) (e : ftX u u') (f : ftM v v') : TR b n R rc rj dt h5 h6 u' v' := by
  obtain ⟨t1, t2, t3, t4, t5, t6, ⟨t7, t8⟩, t9, t10, t11, t12, t13, t14⟩ := h
  exact ⟨e.fr.tp t1, f.fr.tp t2, t3, t4, t5, t6.frj (fun i hi => e.1 _ (by omega)) (fun i hi => by rw [e.2]), ⟨(e.1 18 (by omega)).trans t7, (e.1 19 (by omega)).trans t8⟩, fun k hk => by rw [f.2]; exact t9 k hk, (f.1 2 (by omega)).trans t10, (f.1 3 (by omega)).trans t11, (f.1 4 (by omega)).trans t12, (f.1 5 (by omega)).trans t13, (f.1 6 (by omega)).trans t14⟩
/-- how a line ends: both go on, or both have stopped -/
def Out (b : Nat → Nat) (n p : Nat) (x : Option (Int32 × St)) (m : Option (Unit × St)) (u v : St) : Prop :=
  (∃ (R : Nat → Nat) (rc rj dt h5 h6 t p' e vu : Nat) (u' v' : St), x = some (1, u') ∧ m = some ((), v') ∧ TR b n R rc rj dt h5 h6 u' v' ∧ Z0 R (2 * rc) ∧ Tok b n t p' e vu u' v' ∧ p < p' ∧ FrX u u' ∧ FrM v v') ∨
  (∃ (k q : Nat) (u' v' : St), x = some (0, u') ∧ m = some ((), v') ∧ Bad k q u' v' ∧ FrX u u' ∧ FrM v v')
theorem Out.z {b : Nat → Nat} {n p : Nat} {x : Option (Int32 × St)} {m : Option (Unit × St)} {u v : St} (h : Out b n p x m u v) : Out b n p (bd x (fun (r : Int32) (w : St) => gd (z01 r) (some (r, w)))) m u v := by
  rcases h with ⟨R, rc, rj, dt, h5, h6, t, p', e, vu, u', v', rfl, g⟩ | ⟨k, q, u', v', rfl, g⟩
  · exact Or.inl ⟨R, rc, rj, dt, h5, h6, t, p', e, vu, u', v', by rw [bd_s, z01_1, gd_true], g⟩
  · exact Or.inr ⟨k, q, u', v', by rw [bd_s, z01_0, gd_true], g⟩
theorem Out.w {b : Nat → Nat} {n p : Nat} {x : Option (Int32 × St)} {m : Option (Unit × St)} {u v : St} (h : Out b n p x m u v) : Out b n p (bd x (fun (r : Int32) (w : St) => if r = 0 then some (0, w) else some (1, w))) m u v := by
  rcases h with ⟨R, rc, rj, dt, h5, h6, t, p', e, vu, u', v', rfl, g⟩ | ⟨k, q, u', v', rfl, g⟩
  · exact Or.inl ⟨R, rc, rj, dt, h5, h6, t, p', e, vu, u', v', by rw [bd_s, i10], g⟩
  · exact Or.inr ⟨k, q, u', v', by rw [bd_s, i00], g⟩
/-- the end of a line at the reference -/
def mtail (F : Nat) (v : St) : Option (Unit × St) := if (v.1 9) = 0 then if (v.1 13) = 3 then bd (pX7_step F v) (fun (_ : Unit) (u13 : St) => some ((), u13)) else bd (pX7_fails F 2 v) (fun (_ : Unit) (u14 : St) => bd (pX7_step F u14) (fun (_ : Unit) (u13 : St) => some ((), u13))) else bd (pX7_step F v) (fun (_ : Unit) (u13 : St) => some ((), u13))
theorem mtailB (F : Nat) {k : Nat} (v : St) (h : v.1 9 = nI k) (h0 : 0 < k) (h1 : k < 10) : mtail F v = some ((), v) := by
  unfold mtail
  rw [h, if_neg (n0f (by omega) (by omega)), M_stepB F v h h0 h1, bd_s]
theorem signOut (F : Nat) (hF : 200 ≤ F) {b : Nat → Nat} {n p : Nat} {R : Nat → Nat} {rc rj dt h5 h6 t p1 e1 vu : Nat} {u v u1 v1 : St} (hT : TR b n R rc rj dt h5 h6 u1 v1) (hZ : Z0 R (2 * rc)) (hK : Tok b n t p1 e1 vu u1 v1) (hp : p < e1) (fX : FrX u u1) (fM : FrM v v1) : Out b n p (pX2_takesSign F u1) (mtail F v1) u v := by
  have hK' := hK
  obtain ⟨k1, k2, k3, k4, k5, k20, k21, k22, k23, k13, k12, k11, k14, k9⟩ := hK
  have n1 := hT.1.1
  unfold pX2_takesSign mtail
  rw [k20, k13, k9, if_pos (show nI 0 = 0 from rfl), L3, ifeq (by omega) (by omega), ifeq (by omega) (by omega)]
  by_cases ht : t = 3
  · rw [if_pos ht, if_pos ht]
    rcases next2 F hF u1 v1 hT.1 hT.2.1 k3 k22 k11 k9 with ⟨t2, p2, e2, vl2, u2, v2, g1, g2, g3, g4, g5, g6⟩ | ⟨q, u2, v2, g1, g2, g3, g5, g6⟩
    · exact Or.inl ⟨R, rc, rj, dt, h5, h6, t2, p2, e2, vl2, u2, v2, by rw [g1, bd_s, z01_1, gd_true], by rw [g2, bd_s], hT.ft g5 g6, hZ, g3, by omega, fX.tr g5.fr, fM.tr g6.fr⟩
    · exact Or.inr ⟨1, q, u2, v2, by rw [g1, bd_s, z01_0, gd_true], by rw [g2, bd_s], g3, fX.tr g5.fr, fM.tr g6.fr⟩
  · rw [if_neg ht, if_neg ht]
    have e9 : (stf (stf v1 9 2) 10 (nI p1)).1 9 = nI 2 := by rw [sf_n _ _ _ (by omega), sf_k]; rfl
    refine Or.inr ⟨2, p1, stf u1 18 2, stf (stf v1 9 2) 10 (nI p1), ?_, ?_, ⟨by omega, by omega, by omega, Or.inl (by rw [sf_k]; rfl), by rw [sf_n _ _ _ (by omega)]; exact k21, e9, by rw [sf_k]⟩, fX.sf (by omega) _, (fM.sf (by omega) _).sf (by omega) _⟩
    · unfold pX2_fails
      rw [vl_e, bd_s, z01_0, gd_true]
    · rw [M_fails F v1 2 k9 k12, bd_s, M_stepB F _ e9 (by omega) (by omega), bd_s]
/-! the docket -/
theorem hi_up {c h : Nat} (hc : c < 100) (hh : h < 100) {α : Type} (f : Int32 → α) : (if nI c ≤ nI h - 1 then f (nI h - 1) else f (nI c)) = f (nI (max h (c + 1)) - 1) := by
  have e : (nI h - 1).toInt = (h : Int) - 1 := subL (by omega)
  by_cases q : c + 1 ≤ h
  · rw [if_pos (by rw [Int32.le_iff_toInt_le, e, tI (by omega)]; omega), Nat.max_eq_left q]
  · rw [if_neg (by rw [Int32.le_iff_toInt_le, e, tI (by omega)]; omega), Nat.max_eq_right (by omega), show nI (c + 1) - 1 = nI c from by rw [L1, subI (by omega)]; rfl]
def dkW (w : St) (h c j h5 h6 : Nat) : St := sta (sta (sta (stf (stf w 5 (nI (max h5 (c + 1)) - 1)) 6 (nI (max h6 (j + 1)) - 1)) 2 (nI (56 + h)) (nI c)) 2 (nI (62 + h)) (nI j)) 2 (nI 55) (nI (h + 1))
theorem dkW_9 (w : St) (h c j h5 h6 : Nat) {k : Nat} (hk : k ≠ 5) (hk2 : k ≠ 6) : (dkW w h c j h5 h6).1 k = w.1 k := by
  unfold dkW
  rw [sta_1, sta_1, sta_1, sf_n _ _ _ hk2, sf_n _ _ _ hk]
theorem dkW_f {v w : St} (f : FrM v w) (h c j h5 h6 : Nat) : FrM v (dkW w h c j h5 h6) := (((((f.sf (by omega) _).sf (by omega) _).st _ _).st _ _).st _ _)
/-- the reference's number of a hearing, from the two numbers on -/
theorem M_hearing (F : Nat) {p h h5 h6 : Nat} (self : St → Option (Unit × St)) (v : St) (h9 : v.1 9 = nI 0) (h13 : v.1 13 = nI 2) (h55 : v.2 2 55 = nI h) (hh : h < 6) (v5 : v.1 5 = nI h5 - 1) (v6 : v.1 6 = nI h6 - 1) (b5 : h5 < 100) (b6 : h6 < 100) {c j : Nat} {w1 w2 : St} (hc : c < 50) (hj : j < 50) (n1 : pX7_number F 0 3 v = some (nI c, w1)) (n2 : pX7_number F 0 2 w1 = some (nI j, w2)) (f1 : ∀ k, k < 9 → w2.1 k = v.1 k) (f2 : w2.2 = v.2) : bX7_readDocket_0 F self v = self (dkW w2 h c j h5 h6) := by
  have t55 : Int32.toNatClampNeg 55 = 55 := by decide +kernel
  have g55 : inb 55 68 = true := by decide +kernel
  have a56 : ∀ a, (56 : Int32) + nI a = nI (56 + a) := fun a => by rw [L56, nI_add]
  have s55 : ∀ w : St, w.2 = v.2 → w.2 2 55 = nI h := fun w hw => by rw [hw]; exact h55
  unfold bX7_readDocket_0
  rw [h9, if_pos (show nI 0 = 0 from rfl), h13, if_pos (show nI 2 = 2 from rfl), g55, gd_true, t55, h55, if_neg (show ¬ nI h = 6 from by rw [L6]; exact neI (by omega) (by omega) (by omega)), n1, bd_s, n2, bd_s]
  simp (implicitDefEqProofs := false) only [jn_e, vl_e]
  have e5 : w2.1 5 = nI h5 - 1 := (f1 5 (by omega)).trans v5
  have e6 : ∀ x, (stf w2 5 x).1 6 = nI h6 - 1 := fun x => by rw [sf_n _ _ _ (by omega)]; exact (f1 6 (by omega)).trans v6
  rw [e5]
  have body : ∀ x y : Int32, (gd (inb (56 + (stf (stf w2 5 x) 6 y).2 2 55) 68) (gd true (gd (inb (62 + (sta (stf (stf w2 5 x) 6 y) 2 (56 + (stf (stf w2 5 x) 6 y).2 2 55) (nI c)).2 2 55) 68) (gd true (gd true (self (sta (sta (sta (stf (stf w2 5 x) 6 y) 2 (56 + (stf (stf w2 5 x) 6 y).2 2 55) (nI c)) 2 (62 + (sta (stf (stf w2 5 x) 6 y) 2 (56 + (stf (stf w2 5 x) 6 y).2 2 55) (nI c)).2 2 55) (nI j)) 2 55 ((sta (sta (stf (stf w2 5 x) 6 y) 2 (56 + (stf (stf w2 5 x) 6 y).2 2 55) (nI c)) 2 (62 + (sta (stf (stf w2 5 x) 6 y) 2 (56 + (stf (stf w2 5 x) 6 y).2 2 55) (nI c)).2 2 55) (nI j)).2 2 55 + 1))))))) : Option (Unit × St)) = self (sta (sta (sta (stf (stf w2 5 x) 6 y) 2 (nI (56 + h)) (nI c)) 2 (nI (62 + h)) (nI j)) 2 (nI 55) (nI (h + 1))) := fun x y => by
    have z1 : (stf (stf w2 5 x) 6 y).2 2 55 = nI h := s55 _ f2
    have z2 : (sta (stf (stf w2 5 x) 6 y) 2 (nI (56 + h)) (nI c)).2 2 55 = nI h := by rw [sta_h _ _ (by omega), if_neg (by omega)]; exact z1
    have z3 : (sta (sta (stf (stf w2 5 x) 6 y) 2 (nI (56 + h)) (nI c)) 2 (nI (62 + h)) (nI j)).2 2 55 = nI h := by rw [sta_h _ _ (by omega), if_neg (by omega)]; exact z2
    rw [z1, a56, gd_i (by omega) (by omega), gd_true, z2, at62, gd_i (by omega) (by omega), gd_true, gd_true, z3, nI_s, show (55 : Int32) = nI 55 from by decide +kernel]
  simp (implicitDefEqProofs := false) only [e6, g55, t55, gd_true] at body ⊢
  by_cases q5 : nI c ≤ nI h5 - 1
  · have m5 := hi_up (c := c) (h := h5) (by omega) b5 (fun x => x)
    rw [if_pos q5] at m5
    rw [if_pos q5]
    by_cases q6 : nI j ≤ nI h6 - 1
    · have m6 := hi_up (c := j) (h := h6) (by omega) b6 (fun x => x)
      rw [if_pos q6] at m6
      rw [if_pos q6, body]
      unfold dkW
      rw [← m5, ← m6]
    · have m6 := hi_up (c := j) (h := h6) (by omega) b6 (fun x => x)
      rw [if_neg q6] at m6
      rw [if_neg q6, body]
      unfold dkW
      rw [← m5, ← m6]
  · have m5 := hi_up (c := c) (h := h5) (by omega) b5 (fun x => x)
    rw [if_neg q5] at m5
    rw [if_neg q5]
    by_cases q6 : nI j ≤ nI h6 - 1
    · have m6 := hi_up (c := j) (h := h6) (by omega) b6 (fun x => x)
      rw [if_pos q6] at m6
      rw [if_pos q6, body]
      unfold dkW
      rw [← m5, ← m6]
    · have m6 := hi_up (c := j) (h := h6) (by omega) b6 (fun x => x)
      rw [if_neg q6] at m6
      rw [if_neg q6, body]
      unfold dkW
      rw [← m5, ← m6]
end
section
/-! PURE: text: a hearing is added -/
def hrP (R : Nat → Nat) (h c j : Nat) : Nat → Nat := pu (pu (pu R (56 + h) c) (62 + h) j) 55 (h + 1)
theorem hrP_55 (R : Nat → Nat) (h c j : Nat) : hrP R h c j 55 = h + 1 := pu_s _ _ _
theorem hrP_lo (R : Nat → Nat) (h c j : Nat) {k : Nat} (hk : k < 55) : hrP R h c j k = R k := by
  unfold hrP
  rw [pu_n _ (by omega), pu_n _ (by omega), pu_n _ (by omega)]
theorem hrP_a (R : Nat → Nat) (h c j : Nat) {i : Nat} (hi : i < 6) : hrP R h c j (56 + i) = if i = h then c else R (56 + i) := by
  unfold hrP
  rw [pu_n _ (by omega), pu_n _ (by omega)]
  by_cases q : i = h
  · rw [q, if_pos rfl, pu_s]
  · rw [if_neg q, pu_n _ (by omega)]
theorem hrP_b (R : Nat → Nat) {h : Nat} (hh : h < 6) (c j : Nat) {i : Nat} (hi : i < 6) : hrP R h c j (62 + i) = if i = h then j else R (62 + i) := by
  unfold hrP
  rw [pu_n _ (by omega)]
  by_cases q : i = h
  · rw [q, if_pos rfl, pu_s]
  · rw [if_neg q, pu_n _ (by omega), pu_n _ (by omega)]
theorem X_addH (F : Nat) {h : Nat} (u : St) (h15 : u.1 15 = nI h) (hh : h < 6) (x y : Int32) : pX0_addHearing F 3 x y u = some (1, stf (sta (sta u 50 (nI h) x) 51 (nI h) y) 15 (nI (h + 1))) := by
  have e : pX0_addHearing F 3 x y u = if (u.1 15) < 6 then gd (inb (u.1 15) 6) (vl (sta u 50 (u.1 15) x) (fun (u1 : St) => gd (inb (u1.1 15) 6) (vl (sta u1 51 (u1.1 15) y) (fun (u2 : St) => vl (stf u2 15 ((u2.1 15) + 1)) (fun (u3 : St) => some (1, u3)))))) else some (0, u) := rfl
  rw [e, h15, if_pos (by rw [L6]; exact ylt hh (by omega)), gd_i (by omega) (by omega), vl_e, sta_1, h15, gd_i (by omega) (by omega), vl_e, vl_e, sta_1, sta_1, h15, nI_s]
theorem CtX.hear {c0 jn h x y : Nat} {R : Nat → Nat} {u : St} (hC : CtX 3 c0 jn R u) (h55 : R 55 = h) (b : R 46 ≤ 4) (hc : c0 ≤ 4) (hj : jn ≤ 3) (hh : h < 6) : CtX 3 c0 jn (hrP R h x y) (stf (sta (sta u 50 (nI h) (nI x)) 51 (nI h) (nI y)) 15 (nI (h + 1))) := by
  obtain ⟨h1, h2, h3, h4, h5, h6, h7, h8, h9⟩ := hC
  have a : ∀ k, k ≠ 50 → k ≠ 51 → (stf (sta (sta u 50 (nI h) (nI x)) 51 (nI h) (nI y)) 15 (nI (h + 1))).2 k = u.2 k := fun k k1 k2 => by
    show (sta (sta u 50 (nI h) (nI x)) 51 (nI h) (nI y)).2 k = u.2 k
    rw [sta_m _ _ _ k2, sta_m _ _ _ k1]
  refine ⟨(sf_n _ _ _ (by omega)).trans h1, (sf_n _ _ _ (by omega)).trans h2, ((sf_n _ _ _ (by omega)).trans h3).trans (by rw [hrP_lo R h x y (by omega)]), (sf_k _ _ _).trans (by rw [hrP_55]), fun f hf => ?_, fun i hi => ?_, fun i hi => ?_, fun i hi => ?_, fun i hi => ?_⟩
  · rw [a _ (by omega) (by omega), a _ (by omega) (by omega), a _ (by omega) (by omega), hrP_lo R h x y (by omega), hrP_lo R h x y (by omega), hrP_lo R h x y (by omega)]
    exact h5 f hf
  · rw [a _ (by omega) (by omega), a _ (by omega) (by omega), a _ (by omega) (by omega), a _ (by omega) (by omega), hrP_lo R h x y (by omega), hrP_lo R h x y (by omega), hrP_lo R h x y (by omega), hrP_lo R h x y (by omega)]
    exact h6 i hi
  · rw [a _ (by omega) (by omega), a _ (by omega) (by omega), hrP_lo R h x y (by omega), hrP_lo R h x y (by omega)]
    exact h7 i hi
  · rw [hrP_lo R h x y (by omega)] at hi
    rw [a _ (by omega) (by omega), a _ (by omega) (by omega), hrP_lo R h x y (by omega), hrP_lo R h x y (by omega)]
    exact h8 i hi
  · rw [hrP_55] at hi
    rw [hrP_a R h x y (by omega), hrP_b R hh x y (by omega)]
    have w1 : (stf (sta (sta u 50 (nI h) (nI x)) 51 (nI h) (nI y)) 15 (nI (h + 1))).2 50 i = if i = h then nI x else u.2 50 i := by
      show (sta (sta u 50 (nI h) (nI x)) 51 (nI h) (nI y)).2 50 i = _
      rw [sta_m _ _ _ (by omega), sta_h _ _ (by omega)]
    have w2 : (stf (sta (sta u 50 (nI h) (nI x)) 51 (nI h) (nI y)) 15 (nI (h + 1))).2 51 i = if i = h then nI y else u.2 51 i := by
      show (sta (sta u 50 (nI h) (nI x)) 51 (nI h) (nI y)).2 51 i = _
      rw [sta_h _ _ (by omega), sta_m _ _ _ (by omega)]
    refine ⟨w1.trans ?_, w2.trans ?_⟩
    · by_cases q : i = h
      · rw [if_pos q, if_pos q]
      · rw [if_neg q, if_neg q]
        exact (h9 i (by omega)).1
    · by_cases q : i = h
      · rw [if_pos q, if_pos q]
      · rw [if_neg q, if_neg q]
        exact (h9 i (by omega)).2
theorem BD.hear {R : Nat → Nat} {rc rj h x y : Nat} (hB : BD R rc rj) (h55 : R 55 = h) (hh : h < 6) (hx : x ≤ 3) (hy : y ≤ 2) (hc : rc ≤ 4) (hj : rj ≤ 3) : BD (hrP R h x y) rc rj := by
  obtain ⟨b1, b2, b3, b4, b5, b6, b7⟩ := hB
  refine ⟨by rw [hrP_lo R h x y (by omega)]; exact b1, by rw [hrP_55]; omega, fun f hf => ?_, fun k k1 k2 => ?_, fun i hi => ?_, fun i hi => ?_, fun i hi => ?_⟩
  · rw [hrP_lo R h x y (by omega), hrP_lo R h x y (by omega), hrP_lo R h x y (by omega)]
    exact b3 f hf
  · rw [hrP_lo R h x y (by omega)]
    exact b4 k k1 k2
  · rw [hrP_lo R h x y (by omega), hrP_lo R h x y (by omega)]
    exact b5 i hi
  · rw [hrP_lo R h x y (by omega)] at hi
    rw [hrP_lo R h x y (by omega), hrP_lo R h x y (by omega)]
    exact b6 i hi
  · rw [hrP_55] at hi
    rw [hrP_a R h x y (by omega), hrP_b R hh x y (by omega)]
    by_cases q : i = h
    · rw [if_pos q, if_pos q]
      exact ⟨hx, hy⟩
    · rw [if_neg q, if_neg q]
      exact b7 i (by omega)
theorem HI.hear {R : Nat → Nat} {h5 h6 h x y : Nat} (hI : HI R h5 h6) (h55 : R 55 = h) (hh : h < 6) (hx : x ≤ 3) (hy : y ≤ 2) : HI (hrP R h x y) (max h5 (x + 1)) (max h6 (y + 1)) := by
  obtain ⟨b1, b2, b3, b4, b5⟩ := hI
  refine ⟨by omega, by omega, fun i hi => ?_, Or.inr ?_, Or.inr ?_⟩
  · rw [hrP_55] at hi
    rw [hrP_a R h x y (by omega), hrP_b R hh x y (by omega)]
    by_cases q : i = h
    · rw [if_pos q, if_pos q]
      omega
    · rw [if_neg q, if_neg q]
      have := b3 i (by omega)
      omega
  · rw [hrP_55]
    by_cases q : h5 ≤ x + 1
    · exact ⟨h, by omega, by rw [hrP_a R h x y (by omega), if_pos rfl]; omega⟩
    · rcases b4 with z | ⟨i, z1, z2⟩
      · omega
      · exact ⟨i, by omega, by rw [hrP_a R h x y (by omega), if_neg (by omega)]; omega⟩
  · rw [hrP_55]
    by_cases q : h6 ≤ y + 1
    · exact ⟨h, by omega, by rw [hrP_b R hh x y (by omega), if_pos rfl]; omega⟩
    · rcases b5 with z | ⟨i, z1, z2⟩
      · omega
      · exact ⟨i, by omega, by rw [hrP_b R hh x y (by omega), if_neg (by omega)]; omega⟩
/-- one hearing more, on both sides -/
theorem TR.hear {b : Nat → Nat} {n : Nat} {R : Nat → Nat} {rc rj h5 h6 h x y : Nat} {u v u1 v1 : St} (hT : TR b n R rc rj 1 h5 h6 u v) (h55 : R 55 = h) (hh : h < 6) (hx : x ≤ 3) (hy : y ≤ 2) (e : ftX u u1) (f : ftM v v1) : TR b n (hrP R h x y) rc rj 1 (max h5 (x + 1)) (max h6 (y + 1)) (stf (sta (sta u1 50 (nI h) (nI x)) 51 (nI h) (nI y)) 15 (nI (h + 1))) (dkW v1 h x y h5 h6) := by
  obtain ⟨t1, t2, ⟨q1, q2, q3, q4⟩, t4, t5, t6, ⟨t7, t8⟩, t9, t10, t11, t12, t13, t14⟩ := hT.ft e f
  refine ⟨((((FrX.rf).st (by omega) _ _).st (by omega) _ _).sf (by omega) _).tp t1, (dkW_f FrM.rf h x y h5 h6).tp t2, ⟨q1, q2, q3, fun q => by omega⟩, t4.hear h55 hh hx hy q1 q2, t5.hear h55 hh hx hy, t6.hear h55 t4.1 q1 q2 hh, ⟨(sf_n _ _ _ (by omega)).trans t7, (sf_n _ _ _ (by omega)).trans t8⟩, fun k hk => ?_, (dkW_9 _ _ _ _ _ _ (by omega) (by omega)).trans t10, (dkW_9 _ _ _ _ _ _ (by omega) (by omega)).trans t11, (dkW_9 _ _ _ _ _ _ (by omega) (by omega)).trans t12, ?_, ?_⟩
  · unfold dkW hrP
    rw [sta_h _ _ (by omega)]
    refine puI ?_ _ Iff.rfl
    rw [sta_h _ _ (by omega)]
    refine puI ?_ _ Iff.rfl
    rw [sta_h _ _ (by omega)]
    exact puI (t9 k hk) _ Iff.rfl
  · unfold dkW
    rw [sta_1, sta_1, sta_1, sf_n _ _ _ (by omega), sf_k]
  · unfold dkW
    rw [sta_1, sta_1, sta_1, sf_k]
end
section
/-! PURE: text: the docket -/
theorem dockM_bad (F : Nat) (s : St → Option (Unit × St)) {k : Nat} (v : St) (h : v.1 9 = nI k) (h0 : 0 < k) (h1 : k < 10) : bX7_readDocket_0 F s v = some ((), v) := by
  unfold bX7_readDocket_0
  rw [h, if_neg (n0f (by omega) (by omega))]
/-- behind six hearings the class asks what stands there -/
theorem jdock (F : Nat) {t h : Nat} (u1 : St) (h15 : u1.1 15 = nI h) (k20 : u1.1 20 = nI t) (hh : h ≤ 6) (ht : t ≤ 3) : jX2_takesDocket_58 F u1 = if h < 6 ∨ t = 3 ∨ t = 0 then bd (pX2_takesSign F u1) (fun (r8 : Int32) (u7 : St) => gd (z01 r8) (some (r8, u7))) else some (0, stf u1 18 5) := by
  have eB : bd (pX2_fails F 5 u1) (fun (r10 : Int32) (u9 : St) => gd (z01 r10) (some (r10, u9))) = some (0, stf u1 18 5) := by
    unfold pX2_fails
    rw [vl_e, bd_s, z01_0, gd_true]
  show (if (u1.1 15) < 6 then (if (0 : Int32) = 0 then bd (pX2_takesSign F u1) (fun (r8 : Int32) (u7 : St) => gd (z01 r8) (some (r8, u7))) else bd (pX2_fails F 5 u1) (fun (r10 : Int32) (u9 : St) => gd (z01 r10) (some (r10, u9)))) else if (u1.1 20) = 3 then (if (0 : Int32) = 0 then bd (pX2_takesSign F u1) (fun (r8 : Int32) (u7 : St) => gd (z01 r8) (some (r8, u7))) else bd (pX2_fails F 5 u1) (fun (r10 : Int32) (u9 : St) => gd (z01 r10) (some (r10, u9)))) else if (u1.1 20) = 0 then (if (0 : Int32) = 0 then bd (pX2_takesSign F u1) (fun (r8 : Int32) (u7 : St) => gd (z01 r8) (some (r8, u7))) else bd (pX2_fails F 5 u1) (fun (r10 : Int32) (u9 : St) => gd (z01 r10) (some (r10, u9)))) else (if (1 : Int32) = 0 then bd (pX2_takesSign F u1) (fun (r8 : Int32) (u7 : St) => gd (z01 r8) (some (r8, u7))) else bd (pX2_fails F 5 u1) (fun (r10 : Int32) (u9 : St) => gd (z01 r10) (some (r10, u9))))) = _
  rw [eB, i00, i10, h15, k20]
  by_cases c1 : h < 6
  · rw [if_pos (show nI h < 6 from by rw [L6]; exact ylt c1 (by omega)), if_pos (Or.inl c1)]
  · rw [if_neg (show ¬ nI h < 6 from by rw [L6]; exact nlt (by omega) (by omega))]
    by_cases c2 : t = 3
    · rw [c2, if_pos (show nI 3 = 3 from rfl), if_pos (Or.inr (Or.inl rfl))]
    · rw [if_neg (show ¬ nI t = 3 from by rw [L3]; exact neI c2 (by omega) (by omega))]
      by_cases c3 : t = 0
      · rw [c3, if_pos (show nI 0 = 0 from rfl), if_pos (Or.inr (Or.inr rfl))]
      · rw [if_neg (show ¬ nI t = 0 from by rw [L0]; exact neI c3 (by omega) (by omega)), if_neg (by omega)]
theorem dock_stop (F : Nat) (hF : 200 ≤ F) {b : Nat → Nat} {n p : Nat} {R : Nat → Nat} {rc rj dt h5 h6 t p1 e1 vu h : Nat} {u v u1 v1 : St} (sX : Int32 → St → Option (Int32 × St)) (sM : St → Option (Unit × St)) (hT : TR b n R rc rj dt h5 h6 u1 v1) (hZ : Z0 R (2 * rc)) (hK : Tok b n t p1 e1 vu u1 v1) (hp : p < e1) (fX : FrX u u1) (fM : FrM v v1) (ht : t ≠ 2) (hh : h ≤ 6) : Out b n p (bX2_takesDocket_29 F (jX2_takesDocket_58 F) sX (nI h) u1) (bd (bX7_readDocket_0 F sM v1) (fun (_ : Unit) (w : St) => mtail F w)) u v := by
  have hs := (signOut F hF hT hZ hK hp fX fM).z
  obtain ⟨k1, k2, k3, k4, k5, k20, k21, k22, k23, k13, k12, k11, k14, k9⟩ := hK
  have h15 : u1.1 15 = nI (R 55) := hT.2.2.2.2.2.1.2.2.2.1
  have h55 : R 55 ≤ 6 := hT.2.2.2.1.2.1
  have n1 := hT.1.1
  have eX : bX2_takesDocket_29 F (jX2_takesDocket_58 F) sX (nI h) u1 = jX2_takesDocket_58 F u1 := by
    unfold bX2_takesDocket_29
    rw [k20, if_neg (show ¬ nI t = 2 from by rw [L2]; exact neI ht (by omega) (by omega)), ite_self]
  have eM : bX7_readDocket_0 F sM v1 = some ((), v1) := by
    unfold bX7_readDocket_0
    rw [k9, if_pos (show nI 0 = 0 from rfl), k13, if_neg (show ¬ nI t = 2 from by rw [L2]; exact neI ht (by omega) (by omega))]
  rw [eX, eM, bd_s, jdock F u1 h15 k20 h55 k1]
  by_cases c : R 55 < 6 ∨ t = 3 ∨ t = 0
  · rw [if_pos c]
    exact hs
  · rw [if_neg c]
    have e9 : (stf (stf v1 9 2) 10 (nI p1)).1 9 = nI 2 := by rw [sf_n _ _ _ (by omega), sf_k]; rfl
    refine Or.inr ⟨2, p1, stf u1 18 5, stf (stf v1 9 2) 10 (nI p1), rfl, ?_, ⟨by omega, by omega, by omega, Or.inr ⟨rfl, by rw [sf_k]; rfl⟩, by rw [sf_n _ _ _ (by omega)]; exact k21, e9, by rw [sf_k]⟩, fX.sf (by omega) _, (fM.sf (by omega) _).sf (by omega) _⟩
    unfold mtail
    rw [k9, if_pos (show nI 0 = 0 from rfl), k13, if_neg (show ¬ nI t = 3 from by rw [L3]; exact neI (by omega) (by omega) (by omega)), M_fails F v1 2 k9 k12, bd_s, M_stepB F _ e9 (by omega) (by omega), bd_s]
/-- seven hearings are too many -/
theorem dock_full (F : Nat) {b : Nat → Nat} {n p G : Nat} {R : Nat → Nat} {rc rj dt h5 h6 p1 e1 vu : Nat} {u v u1 v1 : St} (sX : Int32 → St → Option (Int32 × St)) (hT : TR b n R rc rj dt h5 h6 u1 v1) (hK : Tok b n 2 p1 e1 vu u1 v1) (fX : FrX u u1) (fM : FrM v v1) (hh : R 55 = 6) : Out b n p (bX2_takesDocket_29 F (jX2_takesDocket_58 F) sX (nI 6) u1) (bd (bX7_readDocket_0 F (lp0 (bX7_readDocket_0 F) (G + 1)) v1) (fun (_ : Unit) (w : St) => mtail F w)) u v := by
  obtain ⟨k1, k2, k3, k4, k5, k20, k21, k22, k23, k13, k12, k11, k14, k9⟩ := hK
  obtain ⟨t1, t2, t3, t4, t5, t6, ⟨t7, t8⟩, t9, t10, t11, t12, t13, t14⟩ := hT
  have h15 : u1.1 15 = nI 6 := by have := t6.2.2.2.1; rw [hh] at this; exact this
  have t55 : Int32.toNatClampNeg 55 = 55 := by decide +kernel
  have g55 : inb 55 68 = true := by decide +kernel
  have e9 : (stf (stf v1 9 5) 10 (nI p1)).1 9 = nI 5 := by rw [sf_n _ _ _ (by omega), sf_k]; rfl
  have n1 := t1.1
  have eX : bX2_takesDocket_29 F (jX2_takesDocket_58 F) sX (nI 6) u1 = some (0, stf u1 18 5) := by
    unfold bX2_takesDocket_29
    rw [L6, if_pos (show nI 6 ≤ nI 6 by decide), jdock F (t := 2) (h := 6) u1 h15 k20 (by omega) (by omega), if_neg (by omega)]
  have eM : bX7_readDocket_0 F (lp0 (bX7_readDocket_0 F) (G + 1)) v1 = some ((), stf (stf v1 9 5) 10 (nI p1)) := by
    have : bX7_readDocket_0 F (lp0 (bX7_readDocket_0 F) (G + 1)) v1 = lp0 (bX7_readDocket_0 F) (G + 1) (stf (stf v1 9 5) 10 (nI p1)) := by
      rw [bX7_readDocket_0]
      rw [k9, if_pos (show nI 0 = 0 from rfl), k13, if_pos (show nI 2 = 2 from rfl), g55, gd_true, t55, t9 55 (by omega), hh, if_pos (show nI 6 = 6 from rfl), M_fails F v1 5 k9 k12, bd_s]
    rw [this, lp0_s]
    exact dockM_bad F _ _ e9 (by omega) (by omega)
  rw [eX, eM, bd_s, mtailB F _ e9 (by omega) (by omega)]
  exact Or.inr ⟨5, p1, _, _, rfl, rfl, ⟨by omega, by omega, by omega, Or.inl (by rw [sf_k]; rfl), by rw [sf_n _ _ _ (by omega)]; exact k21, e9, by rw [sf_k]⟩, fX.sf (by omega) _, (fM.sf (by omega) _).sf (by omega) _⟩
/-- the reference stops when a hearing cannot be told -/
theorem dock_badM (F : Nat) {b : Nat → Nat} {n p G k q : Nat} {u v : St} (u2 w2 : St) (hx : Bad k q u2 w2) (fX : FrX u u2) (fM : FrM v w2) : Out b n p (some (0, u2)) (bd (lp0 (bX7_readDocket_0 F) (G + 1) w2) (fun (_ : Unit) (w : St) => mtail F w)) u v := by
  obtain ⟨x1, x2, x3, x4, x5, x6, x7⟩ := hx
  rw [lp0_s, dockM_bad F _ w2 x6 x1 x2, bd_s, mtailB F _ x6 x1 x2]
  exact Or.inr ⟨k, q, u2, w2, rfl, rfl, ⟨x1, x2, x3, x4, x5, x6, x7⟩, fX, fM⟩
theorem Bad.dk {k q : Nat} {u w : St} (h : Bad k q u w) (a c j h5 h6 : Nat) : Bad k q u (dkW w a c j h5 h6) := by
  obtain ⟨x1, x2, x3, x4, x5, x6, x7⟩ := h
  exact ⟨x1, x2, x3, x4, x5, by rw [dkW_9 _ _ _ _ _ _ (by omega) (by omega)]; exact x6, by rw [dkW_9 _ _ _ _ _ _ (by omega) (by omega)]; exact x7⟩
theorem fbM.lo {v w : St} (f : fbM v w) : ∀ k, k < 9 → w.1 k = v.1 k := fun k hk => f.1 k (by omega)
theorem numLo (F : Nat) (hF : 200 ≤ F) {b : Nat → Nat} {n t p e vl lo hi : Nat} (u v : St) (hX : TpX b n u) (hM : TpM b n v) (hK : Tok b n t p e vl u v) (hl : lo < 1000) (hh : hi < 1000) {x : Int32} {v' : St} (g : pX7_number F (nI lo) (nI hi) v = some (x, v')) : (∀ k, k < 9 → v'.1 k = v.1 k) ∧ v'.2 = v.2 := by
  rw [M_num F u v hK hl hh] at g
  by_cases c : t = 2 ∧ lo ≤ vl ∧ vl ≤ hi
  · rw [if_pos c] at g
    obtain ⟨k1, k2, k3, k4, k5, k20, k21, k22, k23, k13, k12, k11, k14, k9⟩ := hK
    rcases next2 F hF u v hX hM k3 k22 k11 k9 with ⟨t2', p2, e2, vu2, u2, v2, g1, g2, g3, g4, g5, g6⟩ | ⟨q, u2, v2, g1, g2, g3, g5, g6⟩
    · rw [g2, bd_s] at g
      have := congrArg Prod.snd (Option.some.inj g)
      have h2 : v2 = v' := this
      rw [← h2]
      exact ⟨fun k hk => g6.1 k (by omega), g6.2⟩
    · rw [g2, bd_s] at g
      have := congrArg Prod.snd (Option.some.inj g)
      have h2 : v2 = v' := this
      rw [← h2]
      exact ⟨fun k hk => g6.1 k (by omega), g6.2⟩
  · rw [if_neg c] at g
    have := congrArg Prod.snd (Option.some.inj g)
    have h2 : stf (stf v 9 (if t = 2 then 3 else 2)) 10 (nI p) = v' := this
    rw [← h2]
    exact ⟨fun k hk => by rw [sf_n _ _ _ (by omega), sf_n _ _ _ (by omega)], rfl⟩
theorem dock_one (F : Nat) (hF : 200 ≤ F) {b : Nat → Nat} {n p h : Nat} {R : Nat → Nat} {rc rj h5 h6 p1 e1 vu : Nat} {u v u1 v1 : St} (sX : Int32 → St → Option (Int32 × St)) (G : Nat) (hT : TR b n R rc rj 1 h5 h6 u1 v1) (hZ : Z0 R (2 * rc)) (hK : Tok b n 2 p1 e1 vu u1 v1) (hp : p < e1) (fX : FrX u u1) (fM : FrM v v1) (h55 : R 55 = h) (hh : h < 6) (next : ∀ (R' : Nat → Nat) (h5' h6' t' p' e' vu' : Nat) (u' v' : St), TR b n R' rc rj 1 h5' h6' u' v' → R' 55 = h + 1 → Z0 R' (2 * rc) → Tok b n t' p' e' vu' u' v' → p < e' → FrX u u' → FrM v v' → Out b n p (sX (nI (h + 1)) u') (bd (lp0 (bX7_readDocket_0 F) (G + 1) v') (fun (_ : Unit) (w : St) => mtail F w)) u v) : Out b n p (bX2_takesDocket_29 F (jX2_takesDocket_58 F) sX (nI h) u1) (bd (bX7_readDocket_0 F (lp0 (bX7_readDocket_0 F) (G + 1)) v1) (fun (_ : Unit) (w : St) => mtail F w)) u v := by
  have hK' := hK
  have hT' := hT
  obtain ⟨k1, k2, k3, k4, k5, k20, k21, k22, k23, k13, k12, k11, k14, k9⟩ := hK
  obtain ⟨t1, t2, ⟨q1, q2, q3, q4⟩, t4, t5, t6, ⟨t7, t8⟩, t9, t10, t11, t12, t13, t14⟩ := hT
  have i5 := t5.1
  have i6 := t5.2.1
  have n1 := t1.1
  have h15 : u1.1 15 = nI h := by have := t6.2.2.2.1; rw [h55] at this; exact this
  have h5v : v1.2 2 55 = nI h := by rw [t9 55 (by omega), h55]
  have eX : bX2_takesDocket_29 F (jX2_takesDocket_58 F) sX (nI h) u1 = bd (pX2_takesHearing F u1) (fun (r11 : Int32) (u10 : St) => if r11 = 0 then some (0, u10) else (sX (nI (h + 1)) u10)) := by
    unfold bX2_takesDocket_29
    rw [L6, ifle (by omega) (by omega), if_neg (by omega), k20, if_pos (show nI 2 = 2 from rfl), nI_s]
  have eH : pX2_takesHearing F u1 = bd (pX2_isNumberIn F 0 3 u1) (fun (r2 : Int32) (u1 : St) => if r2 = 0 then some (0, u1) else vl (u1.1 23) (fun v3 => bd (pX2_readsNumber F 0 2 u1) (fun (r5 : Int32) (u4 : St) => if r5 = 0 then some (0, u4) else bd (pX0_addHearing F 3 v3 (u4.1 23) u4) (fun (r7 : Int32) (u6 : St) => bd (pX2_readsNext F u6) (fun (r9 : Int32) (u8 : St) => gd (z01 r9) (some (r9, u8))))))) := by
    rfl
  have c1 : pX2_isNumberIn F 0 3 u1 = if 0 ≤ vu ∧ vu ≤ 3 then some (1, u1) else some (0, stf u1 18 3) := X_isNum F (lo := 0) (hi := 3) u1 (k23 rfl) (by omega) (by omega) (by omega)
  have d1 : pX7_number F 0 3 v1 = if 2 = 2 ∧ 0 ≤ vu ∧ vu ≤ 3 then bd (pX7_step F v1) (fun (_ : Unit) (u5 : St) => some (nI vu, u5)) else some (0, stf (stf v1 9 3) 10 (nI p1)) := M_num F (lo := 0) (hi := 3) u1 v1 hK' (by omega) (by omega)
  have mh : ∀ {c j : Nat} {w1 w2 : St}, c < 50 → j < 50 → pX7_number F 0 3 v1 = some (nI c, w1) → pX7_number F 0 2 w1 = some (nI j, w2) → (∀ k, k < 9 → w2.1 k = v1.1 k) → w2.2 = v1.2 → bX7_readDocket_0 F (lp0 (bX7_readDocket_0 F) (G + 1)) v1 = lp0 (bX7_readDocket_0 F) (G + 1) (dkW w2 h c j h5 h6) := fun hc hj m1 m2 f1 f2 => M_hearing F (p := p1) (lp0 (bX7_readDocket_0 F) (G + 1)) v1 k9 (by rw [k13]) h5v hh t13 t14 (by omega) (by omega) hc hj m1 m2 f1 f2
  rw [eX, eH]
  by_cases z : vu ≤ 3
  · rw [if_pos ⟨by omega, z⟩] at c1
    rw [if_pos ⟨rfl, by omega, z⟩] at d1
    rw [c1, bd_s, i10, vl_e, k23 rfl, X_rnum]
    rcases next2 F hF u1 v1 t1 t2 k3 k22 k11 k9 with ⟨t2', p2, e2, vu2, u2, v2, g1, g2, g3, g4, g5, g6⟩ | ⟨q, u2, v2, g1, g2, g3, g5, g6⟩
    · rw [g2, bd_s] at d1
      rw [g1, bd_s, i10]
      rcases chkT F (lo := 0) (hi := 2) u2 v2 (g5.fr.tp t1) g3 (by omega) (by omega) with ⟨a1, a2, a3, a4, a5⟩ | ⟨k, u3, v3, a1, a2, a3, a4, a5⟩
      · have a4' : chk F 0 2 u2 = some (1, u2) := a4
        have a5' : pX7_number F 0 2 v2 = bd (pX7_step F v2) (fun (_ : Unit) (u5 : St) => some (nI vu2, u5)) := a5
        have hT2 := hT'.ft g5 g6
        have w15 : u2.1 15 = nI h := (g5.1 15 (by omega)).trans h15
        have g3' := g3
        obtain ⟨j1, j2, j3, j4, j5, j20, j21, j22, j23, j13, j12, j11, j14, j9⟩ := g3
        have hT3 : TR b n (hrP R h vu vu2) rc rj 1 (max h5 (vu + 1)) (max h6 (vu2 + 1)) (stf (sta (sta u2 50 (nI h) (nI vu)) 51 (nI h) (nI vu2)) 15 (nI (h + 1))) (dkW v2 h vu vu2 h5 h6) := hT'.hear h55 hh z a3 g5 g6
        rw [a4', bd_s, i10, j23 a1, X_addH F u2 w15 hh, bd_s]
        have fX2 : FrX u (stf (sta (sta u2 50 (nI h) (nI vu)) 51 (nI h) (nI vu2)) 15 (nI (h + 1))) := (((fX.tr g5.fr).st (by omega) _ _).st (by omega) _ _).sf (by omega) _
        -- the reference steps before it writes
        rcases next2 F hF (stf (sta (sta u2 50 (nI h) (nI vu)) 51 (nI h) (nI vu2)) 15 (nI (h + 1))) v2 hT3.1 hT2.2.1 j3 (by rw [sf_n _ _ _ (by omega)]; exact j22) j11 j9 with ⟨t3', p3, e3, vu3, u3, v3, s1, s2, s3, s4, s5, s6⟩ | ⟨q, u3, v3, s1, s2, s3, s5, s6⟩
        · rw [s2, bd_s] at a5'
          rw [mh (by omega) (by omega) d1 a5' (fun k hk => (s6.1 k (by omega)).trans (g6.1 k (by omega))) (s6.2.trans g6.2), s1, bd_s, z01_1, gd_true, bd_s, i10]
          refine next (hrP R h vu vu2) (max h5 (vu + 1)) (max h6 (vu2 + 1)) t3' p3 e3 vu3 u3 (dkW v3 h vu vu2 h5 h6) ?_ (hrP_55 _ _ _ _) (fun f f1 f2 => by rw [hrP_lo R h vu vu2 (by omega)]; exact hZ f f1 f2) ?_ (by have := s3.2.1; omega) (fX2.tr s5.fr) (dkW_f ((fM.tr g6.fr).tr s6.fr) _ _ _ _ _)
          · have hT4 := hT'.hear (x := vu) (y := vu2) h55 hh z a3 g5 (⟨fun k hk => (s6.1 k hk).trans (g6.1 k hk), s6.2.trans g6.2⟩ : ftM v1 v3)
            exact hT4.ft s5 ⟨fun _ _ => rfl, rfl⟩
          · obtain ⟨r1, r2, r3, r4, r5, r20, r21, r22, r23, r13, r12, r11, r14, r9⟩ := s3
            exact ⟨r1, r2, r3, r4, r5, r20, r21, r22, r23, (dkW_9 _ _ _ _ _ _ (by omega) (by omega)).trans r13, (dkW_9 _ _ _ _ _ _ (by omega) (by omega)).trans r12, (dkW_9 _ _ _ _ _ _ (by omega) (by omega)).trans r11, (dkW_9 _ _ _ _ _ _ (by omega) (by omega)).trans r14, (dkW_9 _ _ _ _ _ _ (by omega) (by omega)).trans r9⟩
        · rw [s2, bd_s] at a5'
          rw [mh (by omega) (by omega) d1 a5' (fun k hk => (s6.1 k (by omega)).trans (g6.1 k (by omega))) (s6.2.trans g6.2), s1, bd_s, z01_0, gd_true, bd_s, i00]
          exact dock_badM F u3 _ (s3.dk _ _ _ _ _) (fX2.tr s5.fr) (dkW_f ((fM.tr g6.fr).tr s6.fr) _ _ _ _ _)
      · have a1' : chk F 0 2 u2 = some (0, u3) := a1
        have a2' : pX7_number F 0 2 v2 = some (nI 0, v3) := a2
        obtain ⟨f1, f2⟩ := numLo F hF u2 v2 (g5.fr.tp t1) (g6.fr.tp t2) g3 (by omega) (by omega) a2
        rw [a1', bd_s, i00, bd_s, i00, mh (c := vu) (j := 0) (by omega) (by omega) d1 a2' (fun k hk => (f1 k hk).trans (g6.1 k (by omega))) (f2.trans g6.2)]
        exact dock_badM F u3 _ (a3.dk _ _ _ _ _) ((fX.tr g5.fr).tr a4) (dkW_f ((fM.tr g6.fr).tr a5) _ _ _ _ _)
    · rw [g2, bd_s] at d1
      rw [g1, bd_s, i00, bd_s, i00, mh (c := vu) (j := 0) (by omega) (by omega) d1 (M_numB F v2 0 2 g3.2.2.2.2.2.1 g3.1 g3.2.1) (fun k hk => g6.1 k (by omega)) g6.2]
      exact dock_badM F u2 _ (g3.dk _ _ _ _ _) (fX.tr g5.fr) (dkW_f (fM.tr g6.fr) _ _ _ _ _)
  · rw [if_neg (by omega)] at c1
    rw [if_neg (by omega)] at d1
    have e9 : (stf (stf v1 9 3) 10 (nI p1)).1 9 = nI 3 := by rw [sf_n _ _ _ (by omega), sf_k]; rfl
    have d1' : pX7_number F 0 3 v1 = some (nI 0, stf (stf v1 9 3) 10 (nI p1)) := d1
    rw [c1, bd_s, i00, bd_s, i00, mh (c := 0) (j := 0) (by omega) (by omega) d1' (M_numB F _ 0 2 e9 (by omega) (by omega)) (fun k hk => by rw [sf_n _ _ _ (by omega), sf_n _ _ _ (by omega)]) rfl]
    have hb : Bad 3 p1 (stf u1 18 3) (stf (stf v1 9 3) 10 (nI p1)) := ⟨by omega, by omega, by omega, Or.inl (by rw [sf_k]; rfl), by rw [sf_n _ _ _ (by omega)]; exact k21, e9, by rw [sf_k]⟩
    exact dock_badM F _ _ (hb.dk _ _ _ _ _) (fX.sf (by omega) _) (dkW_f ((fM.sf (by omega) _).sf (by omega) _) _ _ _ _ _)
theorem dock_loop (F : Nat) (hF : 200 ≤ F) {b : Nat → Nat} {n p rc rj : Nat} {u v : St} : ∀ (k h G G' : Nat) (R : Nat → Nat) (h5 h6 t p1 e1 vu : Nat) (u1 v1 : St), h + k = 6 → k < G → k + 1 < G' → TR b n R rc rj 1 h5 h6 u1 v1 → R 55 = h → Z0 R (2 * rc) → Tok b n t p1 e1 vu u1 v1 → p < e1 → FrX u u1 → FrM v v1 → Out b n p (lq1 (bX2_takesDocket_29 F (jX2_takesDocket_58 F)) G (nI h) u1) (bd (lp0 (bX7_readDocket_0 F) G' v1) (fun (_ : Unit) (w : St) => mtail F w)) u v := by
  intro k
  induction k with
  | zero =>
    intro h G G' R h5 h6 t p1 e1 vu u1 v1 hk hG hG' hT h55 hZ hK hp fX fM
    obtain ⟨G1, rfl⟩ : ∃ G1, G = G1 + 1 := ⟨G - 1, by omega⟩
    obtain ⟨G2, rfl⟩ : ∃ G2, G' = G2 + 1 + 1 := ⟨G' - 2, by omega⟩
    have e6 : h = 6 := by omega
    rw [e6, lp0_s]
    show Out b n p (bX2_takesDocket_29 F (jX2_takesDocket_58 F) (lq1 (bX2_takesDocket_29 F (jX2_takesDocket_58 F)) G1) (nI 6) u1) _ u v
    by_cases ht : t = 2
    · rw [ht] at hK
      exact dock_full F _ hT hK fX fM (by omega)
    · exact dock_stop F hF _ _ hT hZ hK hp fX fM ht (by omega)
  | succ k ih =>
    intro h G G' R h5 h6 t p1 e1 vu u1 v1 hk hG hG' hT h55 hZ hK hp fX fM
    obtain ⟨G1, rfl⟩ : ∃ G1, G = G1 + 1 := ⟨G - 1, by omega⟩
    obtain ⟨G2, rfl⟩ : ∃ G2, G' = G2 + 1 + 1 := ⟨G' - 2, by omega⟩
    rw [lp0_s]
    show Out b n p (bX2_takesDocket_29 F (jX2_takesDocket_58 F) (lq1 (bX2_takesDocket_29 F (jX2_takesDocket_58 F)) G1) (nI h) u1) _ u v
    by_cases ht : t = 2
    · rw [ht] at hK
      exact dock_one F hF _ _ hT hZ hK hp fX fM h55 (by omega) (fun R' h5' h6' t' p' e' vu' u' v' a1 a2 a3 a4 a5 a6 a7 => ih (h + 1) G1 (G2 + 1) R' h5' h6' t' p' e' vu' u' v' (by omega) (by omega) (by omega) a1 a2 a3 a4 a5 a6 a7)
    · exact dock_stop F hF _ _ hT hZ hK hp fX fM ht (by omega)
end
section
/-! PURE: text: a line by its name -/
def kM (F : Nat) (r2 : Int32) (a7 : Int32) (u8 : St) : Option (Unit × St) := gd (z01 a7) (vl (stf u8 4 a7) (fun (u9 : St) => bd (pX7_step F u9) (fun (_ : Unit) (u10 : St) => if (u10.1 9) ≤ 0 then bd (pX7_readMore F r2 u10) (fun (_ : Unit) (u11 : St) => mtail F u11) else some ((), u10))))
def kN (F : Nat) (r2 : Int32) (u6 : St) : Option (Unit × St) := if (u6.1 4) = 0 then if r2 = 10 then kM F r2 1 u6 else kM F r2 0 u6 else kM F r2 1 u6
def kO (F : Nat) (r2 : Int32) (u5 : St) : Option (Unit × St) := if r2 = 10 then if (u5.1 4) = 0 then kN F r2 u5 else bd (pX7_fails F 4 u5) (fun (_ : Unit) (u16 : St) => kN F r2 u16) else kN F r2 u5
def kP (F : Nat) (r2 : Int32) (u : St) : Option (Unit × St) := bd (pX7_fails F 5 u) (fun (_ : Unit) (u18 : St) => kO F r2 u18)
def kQ (F : Nat) (r2 : Int32) (u20 : St) : Option (Unit × St) := if r2 = 9 then gd (inb 46 68) (if (u20.2 2 (Int32.toNatClampNeg 46)) = 4 then kP F r2 u20 else kO F r2 u20) else kO F r2 u20
def kR (F : Nat) (r2 : Int32) (u19 : St) : Option (Unit × St) := if 7 < r2 then kQ F r2 u19 else if (u19.1 3) = 3 then kP F r2 u19 else kQ F r2 u19
theorem M_line_e (F : Nat) (v : St) : pX7_readLine F v = bd (pX7_nameHere F v) (fun (r2 : Int32) (u1 : St) => bd (pX7_in F (Int32.toInt64 r2) 4 10 u1) (fun (r4 : Int32) (u3 : St) => if r4 = 0 then bd (pX7_fails F 2 u3) (fun (_ : Unit) (u21 : St) => some ((), u21)) else if r2 = 8 then if (u3.1 2) = 4 then kP F r2 u3 else kR F r2 u3 else kR F r2 u3)) := rfl
theorem kM_go (F : Nat) (r : Int32) {a : Nat} (ha : a ≤ 1) (u : St) : kM F r (nI a) u = bd (pX7_step F (stf u 4 (nI a))) (fun (_ : Unit) (u10 : St) => if (u10.1 9) ≤ 0 then bd (pX7_readMore F r u10) (fun (_ : Unit) (u11 : St) => mtail F u11) else some ((), u10)) := by
  have z : z01 (nI a) = true := by
    rcases (by omega : a = 0 ∨ a = 1) with h | h
    · rw [h]; decide +kernel
    · rw [h]; decide +kernel
  unfold kM
  rw [z, gd_true, vl_e]
theorem kM_bad (F : Nat) (r : Int32) {a k : Nat} (ha : a ≤ 1) (u : St) (h : u.1 9 = nI k) (h0 : 0 < k) (h1 : k < 10) : kM F r (nI a) u = some ((), stf u 4 (nI a)) := by
  have e : (stf u 4 (nI a)).1 9 = nI k := (sf_n _ _ _ (by omega)).trans h
  rw [kM_go F r ha, M_stepB F _ e h0 h1, bd_s, e, if_neg (by rw [L0]; exact nle h0 (by omega))]
theorem kN_e (F : Nat) {K dt : Nat} (hK : K ≤ 10) (hd : dt ≤ 1) (u : St) (h4 : u.1 4 = nI dt) : kN F (nI K) u = kM F (nI K) (nI (if K = 10 then 1 else dt)) u := by
  unfold kN
  rw [h4]
  rcases (by omega : dt = 0 ∨ dt = 1) with h | h
  · rw [h, if_pos (show nI 0 = 0 from rfl), L10, ifeq (by omega) (by omega)]
    by_cases q : K = 10
    · rw [if_pos q, if_pos q]; rfl
    · rw [if_neg q, if_neg q]; rfl
  · rw [h, if_neg (n0f (by omega) (by omega)), show (if K = 10 then 1 else 1) = 1 from by split <;> rfl]
    rfl
theorem kO_e (F : Nat) {K dt : Nat} (hK : K ≤ 10) (hd : dt ≤ 1) (u : St) (h4 : u.1 4 = nI dt) (h : K = 10 → dt = 0) : kO F (nI K) u = kM F (nI K) (nI (if K = 10 then 1 else dt)) u := by
  unfold kO
  rw [L10, ifeq (by omega) (by omega)]
  by_cases q : K = 10
  · rw [if_pos q, h4, h q, if_pos (show nI 0 = 0 from rfl), kN_e F hK hd u h4, h q]
  · rw [if_neg q, kN_e F hK hd u h4]
theorem M_line_in (F : Nat) {K : Nat} (hK : K ≤ 11) (v : St) : pX7_in F (Int32.toInt64 (if K = 11 then -4 else nI K)) 4 10 v = some (b01 (4 ≤ K ∧ K ≤ 10), v) := by
  rw [show (4 : Int64) = lN 4 from by decide +kernel, show (10 : Int64) = lN 10 from by decide +kernel]
  by_cases q : K = 11
  · rw [if_pos q, M_inbN F v (by omega) (by omega), b01_f (by omega)]
  · rw [if_neg q, M_inb F (by omega) v (by omega) (by omega)]
/-- no line begins with this name -/
theorem M_lineN (F : Nat) {K p : Nat} (hK : K ≤ 11) (v : St) (hn : pX7_nameHere F v = some (if K = 11 then -4 else nI K, v)) (h9 : v.1 9 = nI 0) (h12 : v.1 12 = nI p) (hq : ¬ (4 ≤ K ∧ K ≤ 10)) : pX7_readLine F v = some ((), stf (stf v 9 2) 10 (nI p)) := by
  rw [M_line_e, hn, bd_s, M_line_in F hK, bd_s, b01_f hq, i00, M_fails F v 2 h9 h12, bd_s]
theorem M_line1 (F : Nat) {K rc : Nat} (v : St) (hn : pX7_nameHere F v = some (if K = 11 then -4 else nI K, v)) (hq : 4 ≤ K ∧ K ≤ 10) (h2 : v.1 2 = nI rc) (hrc : rc ≤ 4) : pX7_readLine F v = if K = 8 then (if rc = 4 then kP F (nI K) v else kR F (nI K) v) else kR F (nI K) v := by
  rw [M_line_e, hn, bd_s, M_line_in F (by omega), bd_s, b01_t hq, i10, if_neg (show ¬ K = 11 by omega), L8, ifeq (by omega) (by omega), h2, L4, ifeq (by omega) (by omega)]
theorem kR_e (F : Nat) {K rj d : Nat} (v : St) (hq : 4 ≤ K ∧ K ≤ 10) (h3 : v.1 3 = nI rj) (hrj : rj ≤ 3) (h46 : v.2 2 46 = nI d) (hd : d ≤ 4) : kR F (nI K) v = if (K ≤ 7 ∧ rj = 3) ∨ (K = 9 ∧ d = 4) then kP F (nI K) v else kO F (nI K) v := by
  have t46 : Int32.toNatClampNeg 46 = 46 := by decide +kernel
  have g46 : inb 46 68 = true := by decide +kernel
  have eQ : kQ F (nI K) v = if K = 9 ∧ d = 4 then kP F (nI K) v else kO F (nI K) v := by
    unfold kQ
    rw [g46, gd_true, t46, h46, L9, ifeq (by omega) (by omega), L4, ifeq (by omega) (by omega)]
    by_cases a : K = 9
    · by_cases c : d = 4
      · rw [if_pos a, if_pos c, if_pos ⟨a, c⟩]
      · rw [if_pos a, if_neg c, if_neg (fun z => c z.2)]
    · rw [if_neg a, if_neg (fun z => a z.1)]
  unfold kR
  rw [eQ]
  by_cases c7 : K ≤ 7
  · rw [if_neg (show ¬ (7 : Int32) < nI K by rw [L7]; exact nlt c7 (by omega)), h3, L3, ifeq (by omega) (by omega)]
    by_cases a : rj = 3
    · rw [if_pos a, if_pos (Or.inl ⟨c7, a⟩)]
    · rw [if_neg a, if_neg (fun z => by omega), if_neg (fun z => by omega)]
  · rw [if_pos (show (7 : Int32) < nI K by rw [L7]; exact ylt (by omega) (by omega))]
    by_cases a : K = 9 ∧ d = 4
    · rw [if_pos a, if_pos (Or.inr a)]
    · rw [if_neg a, if_neg (fun z => by omega)]
/-- a line that is good so far -/
theorem M_lineG (F : Nat) {K rc rj dt d : Nat} (v : St) (hn : pX7_nameHere F v = some (if K = 11 then -4 else nI K, v)) (hq : 4 ≤ K ∧ K ≤ 10) (h2 : v.1 2 = nI rc) (hrc : rc ≤ 4) (h3 : v.1 3 = nI rj) (hrj : rj ≤ 3) (h4 : v.1 4 = nI dt) (hdt : dt ≤ 1) (h46 : v.2 2 46 = nI d) (hd : d ≤ 4) (g1 : K = 8 → rc < 4) (g2 : K ≤ 7 → rj < 3) (g3 : K = 9 → d < 4) (g4 : K = 10 → dt = 0) : pX7_readLine F v = bd (pX7_step F (stf v 4 (nI (if K = 10 then 1 else dt)))) (fun (_ : Unit) (u10 : St) => if (u10.1 9) ≤ 0 then bd (pX7_readMore F (nI K) u10) (fun (_ : Unit) (u11 : St) => mtail F u11) else some ((), u10)) := by
  rw [M_line1 F v hn hq h2 hrc, kR_e F v hq h3 hrj h46 hd, if_neg (show ¬ ((K ≤ 7 ∧ rj = 3) ∨ (K = 9 ∧ d = 4)) from fun z => by omega)]
  have : (if K = 8 then (if rc = 4 then kP F (nI K) v else kO F (nI K) v) else kO F (nI K) v) = kO F (nI K) v := by
    by_cases q : K = 8
    · rw [if_pos q, if_neg (by omega)]
    · rw [if_neg q]
  rw [this, kO_e F (by omega) hdt v h4 g4, kM_go F _ (by split <;> omega)]
/-- a line of which there are enough -/
theorem M_lineF (F : Nat) {K rc rj dt d p : Nat} (v : St) (hn : pX7_nameHere F v = some (if K = 11 then -4 else nI K, v)) (hq : 4 ≤ K ∧ K ≤ 10) (h9 : v.1 9 = nI 0) (h12 : v.1 12 = nI p) (h2 : v.1 2 = nI rc) (hrc : rc ≤ 4) (h3 : v.1 3 = nI rj) (hrj : rj ≤ 3) (h4 : v.1 4 = nI dt) (hdt : dt ≤ 1) (h46 : v.2 2 46 = nI d) (hd : d ≤ 4) (g : (K = 8 ∧ rc = 4) ∨ (K ≤ 7 ∧ rj = 3) ∨ (K = 9 ∧ d = 4)) : pX7_readLine F v = some ((), stf (stf (stf v 9 5) 10 (nI p)) 4 (nI dt)) := by
  have eP : kP F (nI K) v = some ((), stf (stf (stf v 9 5) 10 (nI p)) 4 (nI dt)) := by
    have e9 : (stf (stf v 9 5) 10 (nI p)).1 9 = nI 5 := by rw [sf_n _ _ _ (by omega), sf_k]; rfl
    have e4 : (stf (stf v 9 5) 10 (nI p)).1 4 = nI dt := by rw [sf_n _ _ _ (by omega), sf_n _ _ _ (by omega)]; exact h4
    unfold kP
    rw [M_fails F v 5 h9 h12, bd_s, kO_e F (by omega) hdt _ e4 (by omega), if_neg (show ¬ K = 10 by omega), kM_bad F _ hdt _ e9 (by omega) (by omega)]
  rw [M_line1 F v hn hq h2 hrc, kR_e F v hq h3 hrj h46 hd]
  by_cases q : K = 8
  · rw [if_pos q, if_pos (by omega), eP]
  · rw [if_neg q, if_pos (by omega), eP]
/-- a second docket -/
theorem M_lineD (F : Nat) {rc rj d p : Nat} (v : St) (hn : pX7_nameHere F v = some (nI 10, v)) (h9 : v.1 9 = nI 0) (h12 : v.1 12 = nI p) (h2 : v.1 2 = nI rc) (hrc : rc ≤ 4) (h3 : v.1 3 = nI rj) (hrj : rj ≤ 3) (h4 : v.1 4 = nI 1) (h46 : v.2 2 46 = nI d) (hd : d ≤ 4) : pX7_readLine F v = some ((), stf (stf (stf v 9 4) 10 (nI p)) 4 (nI 1)) := by
  have e9 : (stf (stf v 9 4) 10 (nI p)).1 9 = nI 4 := by rw [sf_n _ _ _ (by omega), sf_k]; rfl
  have e4 : (stf (stf v 9 4) 10 (nI p)).1 4 = nI 1 := by rw [sf_n _ _ _ (by omega), sf_n _ _ _ (by omega)]; exact h4
  rw [M_line1 F (K := 10) v (by rw [if_neg (by omega)]; exact hn) (by omega) h2 hrc, if_neg (by omega), kR_e F (K := 10) v (by omega) h3 hrj h46 hd, if_neg (by omega)]
  unfold kO
  rw [L10, if_pos rfl, h4, if_neg (n0f (by omega) (by omega)), M_fails F v 4 h9 h12, bd_s, kN_e F (by omega) (by omega) _ e4, if_pos rfl, kM_bad F _ (by omega) _ e9 (by omega) (by omega)]
/-- the line at the program, by its name -/
theorem X_line (F : Nat) {K : Nat} (u : St) (hK : K ≤ 11) (hx : ∀ x, x < 11 → pX2_isNamed F x u = some (if xm x = K then 1 else 0, u)) : pX2_takesLine F u = if K = 8 then bd (pX2_takesCase F u) (fun (r : Int32) (w : St) => gd (z01 r) (some (r, w))) else if K = 9 then bd (pX2_takesDraught F u) (fun (r : Int32) (w : St) => gd (z01 r) (some (r, w))) else if K = 10 then bd (pX2_takesDocket F u) (fun (r : Int32) (w : St) => gd (z01 r) (some (r, w))) else if 4 ≤ K ∧ K < 8 then bd (pX2_takesJudge F (nI (K - 4)) u) (fun (r : Int32) (w : St) => gd (z01 r) (some (r, w))) else some (0, stf u 18 2) := by
  have y : ∀ x m, x < 11 → xm x = m → K = m → pX2_isNamed F x u = some (1, u) := fun x m h1 h2 h3 => by rw [hx x h1, if_pos (by omega)]
  have z : ∀ x m, x < 11 → xm x = m → ¬ K = m → pX2_isNamed F x u = some (0, u) := fun x m h1 h2 h3 => by rw [hx x h1, if_neg (by omega)]
  unfold pX2_takesLine
  by_cases q8 : K = 8
  · rw [if_pos q8, y 0 8 (by omega) rfl q8, bd_s, i10]
  · rw [if_neg q8, z 0 8 (by omega) rfl q8, bd_s, i00]
    by_cases q9 : K = 9
    · rw [if_pos q9, y 5 9 (by omega) rfl q9, bd_s, i10]
    · rw [if_neg q9, z 5 9 (by omega) rfl q9, bd_s, i00]
      by_cases q10 : K = 10
      · rw [if_pos q10, y 6 10 (by omega) rfl q10, bd_s, i10]
      · rw [if_neg q10, z 6 10 (by omega) rfl q10, bd_s, i00, X_habit F u hK hx, bd_s]
        by_cases q : 4 ≤ K ∧ K < 8
        · rw [if_pos q, if_pos q, if_neg (m4_lt (by omega)).2.1]
        · rw [if_neg q, if_neg q, if_pos rfl]
          unfold pX2_fails
          rw [vl_e, bd_s, z01_0, gd_true]
end
