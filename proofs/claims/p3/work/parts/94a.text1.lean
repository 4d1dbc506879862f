/-! PURE: text: tokens -/
theorem lp0_up {ρ : Type} {b : (St → Option ρ) → St → Option ρ} {n : Nat} (I : Nat → St → Prop) (Q : Option ρ → Prop) (stop : ∀ s u, I n u → Q (b s u)) (step : ∀ s i u, i < n → I i u → Q (b s u) ∨ ∃ u', b s u = s u' ∧ I (i + 1) u') : ∀ (k i F : Nat) (u : St), i + k = n → k < F → I i u → Q (lp0 b F u)
  | k, i, 0, u, h1, h2, h3 => by omega
  | 0, i, F + 1, u, h1, h2, h3 => by
    have e : i = n := by omega
    subst e
    rw [lp0_s]
    exact stop _ u h3
  | k + 1, i, F + 1, u, h1, h2, h3 => by
    rw [lp0_s]
    rcases step (lp0 b F) i u (by omega) h3 with q | ⟨u', q1, q2⟩
    · exact q
    · rw [q1]
      exact lp0_up I Q stop step k (i + 1) F u' (by omega) (by omega) q2
/-- from s on, as long as q holds, up to p -/
def Run (q : Nat → Bool) (n s p : Nat) : Prop := s ≤ p ∧ p ≤ n ∧ (∀ i, s ≤ i → i < p → q i = true) ∧ (p < n → q p = false)
theorem Run_ex (q : Nat → Bool) (n : Nat) : ∀ k s, s + k = n → ∃ p, Run q n s p
  | 0, s, h => ⟨s, Nat.le_refl _, by omega, fun i h1 h2 => by omega, fun h => by omega⟩
  | k + 1, s, h => by
    rcases hq : q s with _ | _
    · exact ⟨s, Nat.le_refl _, by omega, fun i h1 h2 => by omega, fun _ => hq⟩
    · obtain ⟨p, p1, p2, p3, p4⟩ := Run_ex q n k (s + 1) (by omega)
      refine ⟨p, by omega, p2, fun i h1 h2 => ?_, p4⟩
      by_cases z : i = s
      · rw [z]; exact hq
      · exact p3 i (by omega) h2
def cls (c : Nat) : Nat := if 97 ≤ c ∧ c ≤ 122 then 1 else if 48 ≤ c ∧ c ≤ 57 then 2 else if c = 59 then 3 else 4
theorem cls_bd (c : Nat) : 1 ≤ cls c ∧ cls c ≤ 4 := by
  unfold cls
  split
  · omega
  · split
    · omega
    · split <;> omega
def TpX (b : Nat → Nat) (n : Nat) (u : St) : Prop := n ≤ 160 ∧ u.1 17 = nI n ∧ ∀ i, i < n → b i ≤ 127 ∧ u.2 54 i = nI (b i)
def TpM (b : Nat → Nat) (n : Nat) (v : St) : Prop := n ≤ 160 ∧ v.1 7 = nI n ∧ (∀ i, i < n → b i ≤ 127 ∧ v.2 3 i = nI (b i)) ∧ v.2 4 = u0M.2 4 ∧ v.2 5 = u0M.2 5
theorem X_tok (F : Nat) {c : Nat} (hc : c < 1000) (u : St) : pX2_tokenOf F (nI c) u = some (nI (cls c), u) := by
  unfold pX2_tokenOf cls
  simp only [jn_e]
  rw [show (97 : Int32) = nI 97 from rfl, show (122 : Int32) = nI 122 from rfl, show (48 : Int32) = nI 48 from rfl, show (57 : Int32) = nI 57 from rfl, show (59 : Int32) = nI 59 from rfl]
  rw [iflt (by omega) (by omega), iflt (by omega) (by omega), iflt (by omega) (by omega), iflt (by omega) (by omega), ifeq (by omega) (by omega)]
  have e1 : (97 ≤ c ∧ c ≤ 122) ↔ (¬ c < 97 ∧ ¬ 122 < c) := by omega
  have e2 : (48 ≤ c ∧ c ≤ 57) ↔ (¬ c < 48 ∧ ¬ 57 < c) := by omega
  simp only [e1, e2]
  by_cases h1 : c < 97 <;> by_cases h2 : 122 < c <;> by_cases h3 : c < 48 <;> by_cases h4 : 57 < c <;> by_cases h5 : c = 59 <;> simp only [h1, h2, h3, h4, h5, if_true, if_false, not_true_eq_false, not_false_eq_true, and_true, and_false] <;> rfl
theorem X_skip (F : Nat) (hF : 200 ≤ F) {b : Nat → Nat} {n s p : Nat} (J : St → Option (Int32 × St)) (u : St) (hT : TpX b n u) (hs : u.1 22 = nI s) (hr : Run (fun i => decide (b i = 32)) n s p) : ∃ u', lp0 (bX2_readsNext_0 F J) F u = J u' ∧ u'.1 22 = nI p ∧ (∀ k, k ≠ 22 → u'.1 k = u.1 k) ∧ u'.2 = u.2 := by
  obtain ⟨n1, n2, n3⟩ := hT
  obtain ⟨r1, r2, r3, r4⟩ := hr
  refine lp0_up (n := p - s) (I := fun i w => w.1 22 = nI (s + i) ∧ (∀ k, k ≠ 22 → w.1 k = u.1 k) ∧ w.2 = u.2) (Q := fun o => ∃ u' : St, o = J u' ∧ u'.1 22 = nI p ∧ (∀ k, k ≠ 22 → u'.1 k = u.1 k) ∧ u'.2 = u.2) ?_ ?_ (p - s) 0 F u (by omega) (by omega) ⟨hs, fun _ _ => rfl, rfl⟩
  · rintro g w ⟨w1, w2, w3⟩
    rw [show s + (p - s) = p by omega] at w1
    refine ⟨w, ?_, w1, w2, w3⟩
    unfold bX2_readsNext_0
    rw [w1, w2 17 (by omega), n2, w3]
    by_cases q : n ≤ p
    · rw [if_pos (yle q (by omega))]
    · obtain ⟨b1, b2⟩ := n3 p (by omega)
      have hq := r4 (by omega)
      rw [if_neg (nle (by omega) (by omega)), gd_i (by omega) (by omega), cl (by omega), b2, L32, if_neg (neI (of_decide_eq_false hq) (by omega) (by omega))]
  · rintro g i w hi ⟨w1, w2, w3⟩
    obtain ⟨b1, b2⟩ := n3 (s + i) (by omega)
    have hq := r3 (s + i) (by omega) (by omega)
    refine Or.inr ⟨stf w 22 (nI (s + i + 1)), ?_, rfl, fun k hk => by rw [stf_1, if_neg hk, w2 k hk], w3⟩
    unfold bX2_readsNext_0
    rw [w1, w2 17 (by omega), n2, w3, if_neg (nle (by omega) (by omega)), gd_i (by omega) (by omega), cl (by omega), b2, of_decide_eq_true hq, if_pos (show nI 32 = 32 from rfl), vl_e, nI_s]
theorem X_runT (F : Nat) (hF : 200 ≤ F) {b : Nat → Nat} {n s p t : Nat} (J : St → Option (Int32 × St)) (u : St) (hT : TpX b n u) (hs : u.1 22 = nI s) (ht : u.1 20 = nI t) (ht4 : t ≤ 4) (ht3 : t ≠ 3) (hr : Run (fun i => decide (cls (b i) = t)) n s p) : ∃ u', lp0 (bX2_readsNext_90 F J) F u = J u' ∧ u'.1 22 = nI p ∧ (∀ k, k ≠ 22 → u'.1 k = u.1 k) ∧ u'.2 = u.2 := by
  obtain ⟨n1, n2, n3⟩ := hT
  obtain ⟨r1, r2, r3, r4⟩ := hr
  refine lp0_up (n := p - s) (I := fun i w => w.1 22 = nI (s + i) ∧ (∀ k, k ≠ 22 → w.1 k = u.1 k) ∧ w.2 = u.2) (Q := fun o => ∃ u' : St, o = J u' ∧ u'.1 22 = nI p ∧ (∀ k, k ≠ 22 → u'.1 k = u.1 k) ∧ u'.2 = u.2) ?_ ?_ (p - s) 0 F u (by omega) (by omega) ⟨hs, fun _ _ => rfl, rfl⟩
  · rintro g w ⟨w1, w2, w3⟩
    rw [show s + (p - s) = p by omega] at w1
    refine ⟨w, ?_, w1, w2, w3⟩
    unfold bX2_readsNext_90
    rw [w1, w2 17 (by omega), w2 20 (by omega), n2, ht, w3, L3, if_neg (neI ht3 (by omega) (by omega))]
    by_cases q : n ≤ p
    · rw [if_pos (yle q (by omega))]
    · obtain ⟨b1, b2⟩ := n3 p (by omega)
      have hq := r4 (by omega)
      have hcb := cls_bd (b p)
      rw [if_neg (nle (by omega) (by omega)), gd_i (by omega) (by omega), cl (by omega), b2, X_tok F (by omega), bd_s, w2 20 (by omega), ht, if_neg (neI (of_decide_eq_false hq) (by omega) (by omega))]
  · rintro g i w hi ⟨w1, w2, w3⟩
    obtain ⟨b1, b2⟩ := n3 (s + i) (by omega)
    have hq := r3 (s + i) (by omega) (by omega)
    refine Or.inr ⟨stf w 22 (nI (s + i + 1)), ?_, rfl, fun k hk => by rw [stf_1, if_neg hk, w2 k hk], w3⟩
    unfold bX2_readsNext_90
    rw [w1, w2 17 (by omega), w2 20 (by omega), n2, ht, w3, L3, if_neg (neI ht3 (by omega) (by omega)), if_neg (nle (by omega) (by omega)), gd_i (by omega) (by omega), cl (by omega), b2, X_tok F (by omega), bd_s, w2 20 (by omega), ht, of_decide_eq_true hq, if_pos rfl, vl_e, w1, nI_s]
/-- the figures' value -/
def fig (b : Nat → Nat) (p : Nat) : Nat → Nat
  | 0 => 0
  | k + 1 => 10 * fig b p k + b (p + k) - 48
theorem cls2 {c : Nat} (h : cls c = 2) : 48 ≤ c ∧ c ≤ 57 := by
  unfold cls at h
  split at h
  · omega
  · split at h
    · assumption
    · split at h <;> omega
theorem X_figs (F : Nat) (hF : 200 ≤ F) {b : Nat → Nat} {n p e : Nat} (u : St) (hT : TpX b n u) (h21 : u.1 21 = nI p) (h22 : u.1 22 = nI e) (hpe : p ≤ e) (hen : e ≤ n) (hd : ∀ i, p ≤ i → i < e → cls (b i) = 2) (he : e ≤ p + 2) : pX2_figuresRead F u = some (nI (fig b p (e - p)), u) := by
  obtain ⟨n1, n2, n3⟩ := hT
  unfold pX2_figuresRead
  rw [vl_e, h21]
  refine lq2_up (n := e) (I := fun i x w => p ≤ i ∧ x = nI (fig b p (i - p)) ∧ w = u) (Q := fun o => o = some (nI (fig b p (e - p)), u)) ?_ ?_ (e - p) p F 0 u (by omega) (by omega) ⟨Nat.le_refl _, by rw [Nat.sub_self]; rfl, rfl⟩
  · rintro g x w ⟨-, rfl, rfl⟩
    unfold bX2_figuresRead_7
    rw [h22, if_pos (yle (Nat.le_refl _) (by omega))]
  · rintro g i x w hi ⟨h1, rfl, rfl⟩
    obtain ⟨b1, b2⟩ := n3 i (by omega)
    have hc := cls2 (hd i h1 hi)
    refine Or.inr ⟨nI (fig b p (i + 1 - p)), w, ?_, by omega, rfl, rfl⟩
    unfold bX2_figuresRead_7
    rw [h22, if_neg (nle hi (by omega)), gd_i (by omega) (by omega), vl_e, cl (by omega), b2, tm10, nI_add, show (48 : Int32) = nI 48 from rfl, subI (by omega), nI_s, show i + 1 - p = (i - p) + 1 by omega, fig, show p + (i - p) = i by omega]
theorem fig_lt {b : Nat → Nat} {p : Nat} : ∀ k, k ≤ 2 → (∀ i, p ≤ i → i < p + k → cls (b i) = 2) → fig b p k < 100
  | 0, _, _ => by
    unfold fig
    omega
  | 1, _, h => by
    have h0 := cls2 (h p (by omega) (by omega))
    show 10 * 0 + b (p + 0) - 48 < 100
    rw [Nat.add_zero]
    omega
  | 2, _, h => by
    have h0 := cls2 (h p (by omega) (by omega))
    have h1 := cls2 (h (p + 1) (by omega) (by omega))
    show 10 * (10 * 0 + b (p + 0) - 48) + b (p + 1) - 48 < 100
    rw [Nat.add_zero]
    omega
  | k + 3, hk, _ => by omega
/-! the reference's tokens -/
theorem M_byte (F : Nat) {b : Nat → Nat} {n i : Nat} (v : St) (hT : TpM b n v) (hi : i < n) : pX7_byteAt F (nI i) v = some (nI (b i), v) := by
  obtain ⟨n1, n2, n3, -⟩ := hT
  unfold pX7_byteAt
  rw [n2, if_neg (nle hi (by omega)), gd_i (by omega) (by omega), cl (by omega), (n3 i hi).2]
theorem M_byteN (F : Nat) {b : Nat → Nat} {n i : Nat} (v : St) (hT : TpM b n v) (hi : n ≤ i) (hi2 : i < 1000) : pX7_byteAt F (nI i) v = some (-4, v) := by
  obtain ⟨n1, n2, n3, -⟩ := hT
  unfold pX7_byteAt
  rw [n2, if_pos (yle hi (by omega))]
theorem M_inb (F : Nat) {c lo hi : Nat} (hc : c < 1000) (v : St) (hl : lo < 1000) (hh : hi < 1000) : pX7_in F (Int32.toInt64 (nI c)) (lN lo) (lN hi) v = some (b01 (lo ≤ c ∧ c ≤ hi), v) := by
  rw [M_in, tI64, tI (by omega), pk_lT (by omega), pk_lT (by omega)]
  by_cases q : lo ≤ c ∧ c ≤ hi
  · rw [b01_t q, b01_t (by omega)]
  · rw [b01_f q, b01_f (by omega)]
theorem M_inbN (F : Nat) {lo hi : Nat} (v : St) (hl : lo < 1000) (hh : hi < 1000) : pX7_in F (Int32.toInt64 (-4)) (lN lo) (lN hi) v = some (0, v) := by
  rw [M_in, tI64, pk_lT (by omega), pk_lT (by omega), b01_f (by rw [show (-4 : Int32).toInt = -4 from by decide]; omega)]
theorem l97 : (97 : Int64) = lN 97 := by decide +kernel
theorem l122 : (122 : Int64) = lN 122 := by decide +kernel
theorem l48 : (48 : Int64) = lN 48 := by decide +kernel
theorem l57 : (57 : Int64) = lN 57 := by decide +kernel
/-- the reference's scalars of the text alone have changed -/
theorem TpM.fr {b : Nat → Nat} {n : Nat} {v w : St} (h : TpM b n v) (e1 : w.1 7 = v.1 7) (e2 : w.2 3 = v.2 3) (e3 : w.2 4 = v.2 4) (e4 : w.2 5 = v.2 5) : TpM b n w := ⟨h.1, e1.trans h.2.1, fun i hi => by rw [e2]; exact h.2.2.1 i hi, e3.trans h.2.2.2.1, e4.trans h.2.2.2.2⟩
theorem M_skip (F : Nat) (hF : 200 ≤ F) {b : Nat → Nat} {n s p : Nat} (J : St → Option (Unit × St)) (v : St) (hT : TpM b n v) (hs : v.1 11 = nI s) (hr : Run (fun i => decide (b i = 32)) n s p) : ∃ v', lp0 (bX7_step_8 F J) F v = J v' ∧ v'.1 11 = nI p ∧ (∀ k, k ≠ 11 → v'.1 k = v.1 k) ∧ v'.2 = v.2 := by
  obtain ⟨r1, r2, r3, r4⟩ := hr
  have n1 := hT.1
  refine lp0_up (n := p - s) (I := fun i w => w.1 11 = nI (s + i) ∧ (∀ k, k ≠ 11 → w.1 k = v.1 k) ∧ w.2 = v.2) (Q := fun o => ∃ v' : St, o = J v' ∧ v'.1 11 = nI p ∧ (∀ k, k ≠ 11 → v'.1 k = v.1 k) ∧ v'.2 = v.2) ?_ ?_ (p - s) 0 F v (by omega) (by omega) ⟨hs, fun _ _ => rfl, rfl⟩
  · rintro g w ⟨w1, w2, w3⟩
    rw [show s + (p - s) = p by omega] at w1
    refine ⟨w, ?_, w1, w2, w3⟩
    have hTw : TpM b n w := hT.fr (w2 7 (by omega)) (by rw [w3]) (by rw [w3]) (by rw [w3])
    unfold bX7_step_8
    rw [w1]
    by_cases q : n ≤ p
    · rw [M_byteN F w hTw q (by omega), bd_s, if_neg (show ¬ (-4 : Int32) = 32 by decide)]
    · have b1 := (hT.2.2.1 p (by omega)).1
      have hq := r4 (by omega)
      rw [M_byte F w hTw (by omega), bd_s, L32, if_neg (neI (of_decide_eq_false hq) (by omega) (by omega))]
  · rintro g i w hi ⟨w1, w2, w3⟩
    have hTw : TpM b n w := hT.fr (w2 7 (by omega)) (by rw [w3]) (by rw [w3]) (by rw [w3])
    have hq := r3 (s + i) (by omega) (by omega)
    refine Or.inr ⟨stf w 11 (nI (s + i + 1)), ?_, rfl, fun k hk => by rw [stf_1, if_neg hk, w2 k hk], w3⟩
    unfold bX7_step_8
    rw [w1, M_byte F w hTw (by omega), bd_s, of_decide_eq_true hq, if_pos (show nI 32 = 32 from rfl), vl_e, w1, nI_s]
theorem cls1 (c : Nat) : (97 ≤ c ∧ c ≤ 122) ↔ cls c = 1 := by
  unfold cls
  constructor
  · intro h
    rw [if_pos h]
  · intro h
    split at h
    · assumption
    · split at h
      · omega
      · split at h <;> omega
theorem cls2' (c : Nat) : (48 ≤ c ∧ c ≤ 57) ↔ cls c = 2 := by
  constructor
  · intro h
    unfold cls
    rw [if_neg (by omega), if_pos h]
  · exact cls2
theorem M_letters (F : Nat) (hF : 200 ≤ F) {b : Nat → Nat} {n s p : Nat} (J : St → Option (Unit × St)) (v : St) (hT : TpM b n v) (hs : v.1 11 = nI s) (hr : Run (fun i => decide (cls (b i) = 1)) n s p) : ∃ v', lp0 (bX7_step_84 F J) F v = J v' ∧ v'.1 11 = nI p ∧ (∀ k, k ≠ 11 → v'.1 k = v.1 k) ∧ v'.2 = v.2 := by
  obtain ⟨r1, r2, r3, r4⟩ := hr
  have n1 := hT.1
  refine lp0_up (n := p - s) (I := fun i w => w.1 11 = nI (s + i) ∧ (∀ k, k ≠ 11 → w.1 k = v.1 k) ∧ w.2 = v.2) (Q := fun o => ∃ v' : St, o = J v' ∧ v'.1 11 = nI p ∧ (∀ k, k ≠ 11 → v'.1 k = v.1 k) ∧ v'.2 = v.2) ?_ ?_ (p - s) 0 F v (by omega) (by omega) ⟨hs, fun _ _ => rfl, rfl⟩
  · rintro g w ⟨w1, w2, w3⟩
    rw [show s + (p - s) = p by omega] at w1
    refine ⟨w, ?_, w1, w2, w3⟩
    have hTw : TpM b n w := hT.fr (w2 7 (by omega)) (by rw [w3]) (by rw [w3]) (by rw [w3])
    unfold bX7_step_84
    rw [w1, l97, l122]
    by_cases q : n ≤ p
    · rw [M_byteN F w hTw q (by omega), bd_s, M_inbN F w (by omega) (by omega), bd_s, i00]
    · have b1 := (hT.2.2.1 p (by omega)).1
      have hq := of_decide_eq_false (r4 (by omega))
      rw [M_byte F w hTw (by omega), bd_s, M_inb F (by omega) w (by omega) (by omega), bd_s, b01_f (fun z => hq ((cls1 _).mp z)), i00]
  · rintro g i w hi ⟨w1, w2, w3⟩
    have hTw : TpM b n w := hT.fr (w2 7 (by omega)) (by rw [w3]) (by rw [w3]) (by rw [w3])
    have hq := of_decide_eq_true (r3 (s + i) (by omega) (by omega))
    have b1 := (hT.2.2.1 (s + i) (by omega)).1
    refine Or.inr ⟨stf w 11 (nI (s + i + 1)), ?_, rfl, fun k hk => by rw [stf_1, if_neg hk, w2 k hk], w3⟩
    unfold bX7_step_84
    rw [w1, l97, l122, M_byte F w hTw (by omega), bd_s, M_inb F (by omega) w (by omega) (by omega), bd_s, b01_t ((cls1 _).mpr hq), i10, vl_e, w1, nI_s]
def mn2 (k : Nat) : Nat := if k < 2 then k else 2
theorem M_digits (F : Nat) (hF : 200 ≤ F) {b : Nat → Nat} {n s p : Nat} (J : St → Option (Unit × St)) (v : St) (hT : TpM b n v) (hs : v.1 11 = nI s) (h12 : v.1 12 = nI s) (h14 : v.1 14 = 0) (hr : Run (fun i => decide (cls (b i) = 2)) n s p) : ∃ v', lp0 (bX7_step_140 F J) F v = J v' ∧ v'.1 11 = nI p ∧ v'.1 14 = nI (fig b s (mn2 (p - s))) ∧ (∀ k, k ≠ 11 → k ≠ 14 → v'.1 k = v.1 k) ∧ v'.2 = v.2 := by
  obtain ⟨r1, r2, r3, r4⟩ := hr
  have n1 := hT.1
  refine lp0_up (n := p - s) (I := fun i w => w.1 11 = nI (s + i) ∧ w.1 14 = nI (fig b s (mn2 i)) ∧ (∀ k, k ≠ 11 → k ≠ 14 → w.1 k = v.1 k) ∧ w.2 = v.2) (Q := fun o => ∃ v' : St, o = J v' ∧ v'.1 11 = nI p ∧ v'.1 14 = nI (fig b s (mn2 (p - s))) ∧ (∀ k, k ≠ 11 → k ≠ 14 → v'.1 k = v.1 k) ∧ v'.2 = v.2) ?_ ?_ (p - s) 0 F v (by omega) (by omega) ⟨hs, h14, fun _ _ _ => rfl, rfl⟩
  · rintro g w ⟨w1, w4, w2, w3⟩
    rw [show s + (p - s) = p by omega] at w1
    refine ⟨w, ?_, w1, w4, w2, w3⟩
    have hTw : TpM b n w := hT.fr (w2 7 (by omega) (by omega)) (by rw [w3]) (by rw [w3]) (by rw [w3])
    unfold bX7_step_140
    rw [w1, l48, l57]
    by_cases q : n ≤ p
    · rw [M_byteN F w hTw q (by omega), bd_s, M_inbN F w (by omega) (by omega), bd_s, i00]
    · have b1 := (hT.2.2.1 p (by omega)).1
      have hq := of_decide_eq_false (r4 (by omega))
      rw [M_byte F w hTw (by omega), bd_s, M_inb F (by omega) w (by omega) (by omega), bd_s, b01_f (fun z => hq ((cls2' _).mp z)), i00]
  · rintro g i w hi ⟨w1, w4, w2, w3⟩
    have hTw : TpM b n w := hT.fr (w2 7 (by omega) (by omega)) (by rw [w3]) (by rw [w3]) (by rw [w3])
    have hq := of_decide_eq_true (r3 (s + i) (by omega) (by omega))
    have b1 := (hT.2.2.1 (s + i) (by omega)).1
    have hc := cls2 hq
    have w12 : w.1 12 = nI s := (w2 12 (by omega) (by omega)).trans h12
    refine Or.inr ⟨stf (stf w 14 (nI (fig b s (mn2 (i + 1))))) 11 (nI (s + i + 1)), ?_, rfl, ?_, fun k hk hk' => by rw [stf_1, if_neg hk, stf_1, if_neg hk', w2 k hk hk'], w3⟩
    · unfold bX7_step_140
      rw [w1, l48, l57, M_byte F w hTw (by omega), bd_s, M_inb F (by omega) w (by omega) (by omega), bd_s, b01_t ((cls2' _).mpr hq), i10]
      simp only [jn_e, vl_e]
      rw [w1, w12, subI (by omega), show s + i - s = i by omega, w4, M_byte F w hTw (by omega)]
      by_cases q : i < 2
      · rw [if_neg (show ¬ (2 : Int32) ≤ nI i from by rw [L2]; exact nle q (by omega)), bd_s, tm10, nI_add, show (48 : Int32) = nI 48 from rfl, subI (by omega), show mn2 (i + 1) = i + 1 from by unfold mn2; split <;> omega, show mn2 i = i from by unfold mn2; rw [if_pos q], fig, stf_1, if_neg (by omega), w1, nI_s]
      · rw [if_pos (show (2 : Int32) ≤ nI i from by rw [L2]; exact yle (by omega) (by omega)), show mn2 (i + 1) = mn2 i from by unfold mn2; rw [if_neg q, if_neg (by omega)], stf_1, if_neg (by omega), w1, nI_s]
    · rw [stf_1, if_neg (by omega), stf_1, if_pos rfl]
