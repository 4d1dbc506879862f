/-! PURE: turn -/
def al (f : Nat → Bool) : Nat → Bool
  | 0 => true
  | n + 1 => al f n && f n
theorem al_t {f : Nat → Bool} : ∀ {n : Nat}, al f n = true → ∀ i, i < n → f i = true
  | 0, _, i, hi => by omega
  | n + 1, h, i, hi => by
    unfold al at h
    rw [Bool.and_eq_true] at h
    by_cases q : i = n
    · rw [q]; exact h.2
    · exact al_t h.1 i (by omega)
theorem al_f {f : Nat → Bool} : ∀ {n : Nat} {i : Nat}, i < n → f i = false → al f n = false
  | 0, i, hi, _ => by omega
  | n + 1, i, hi, h => by
    unfold al
    by_cases q : i = n
    · rw [← q, h, Bool.and_false]
    · rw [al_f (show i < n by omega) h, Bool.false_and]
theorem al_c {f g : Nat → Bool} : ∀ n, (∀ i, i < n → f i = g i) → al f n = al g n
  | 0, _ => rfl
  | n + 1, h => by
    unfold al
    rw [h n (by omega), al_c n (fun i hi => h i (by omega))]
theorem X_blowP (F : Nat) {c jn cc jj mi s : Nat} {P : Nat → Nat} (u : St) (hPg : PgOK c jn P) (h : TP P (stg P 0 (P 46)) cc jj u) (hm : mi < 21) (hs : s < 1000) : ∃ u', pX5_blows F (nI mi) (nI s) u = some ((), u') ∧ TP P (stm P 0 mi s (P 46)) cc jj u' ∧ eqT u u' := by
  obtain ⟨h1, h3, h5, h7, h8, h9⟩ := h
  refine ⟨sta u 58 (nI mi) (nI (max (stg P 0 (P 46) mi) s)), X_blows F u hm hs (stg_lt hPg 0 mi) (h7 mi hm), ⟨?_, ?_, ?_, fun m hm' => ?_, h8, h9⟩, fun k hk => rfl, fun k hk => sta_m _ _ _ (by omega)⟩
  · rw [sta_m _ _ _ (by omega)]; exact h1
  · rw [sta_m _ _ _ (by omega)]; exact h3
  · rw [sta_m _ _ _ (by omega)]; exact h5
  · rw [sta_h _ _ (by omega)]
    unfold stm
    by_cases q : m = mi
    · rw [if_pos q, if_pos q.symm, q, Nat.max_comm]
    · rw [if_neg q, if_neg (fun z => q z.symm), Nat.max_eq_right (by omega)]
      exact h7 m hm'
theorem stm_lt {c jn : Nat} {P : Nat → Nat} (h : PgOK c jn P) (aw mm : Nat) {ms : Nat} (hms : ms < 1000) (m : Nat) : stm P aw mm ms (P 46) m < 1000 := by
  have := stg_lt h aw m
  unfold stm
  split
  · rw [Nat.max_def]; split <;> omega
  · rw [Nat.max_def]; split <;> omega
/-- the verdict turns -/
def tn (P : Nat → Nat) (a b s m : Nat) : Bool := decide (¬ (hP P (stm P 0 m s (P 46)) a b).1 = (hP P (stg P 0 (P 46)) a b).1)
theorem X_turn (F : Nat) (hF : 200 ≤ F) {c jn a b s : Nat} {P : Nat → Nat} (u : St) (hc4 : c ≤ 4) (hj3 : jn ≤ 3) (hPg : PgOK c jn P) (hX : CtX 0 c jn P u) (ha : a < c) (hb : b < jn) (hs : s ≤ 9) : ∃ r u', lq1 (bX6_turn_47 F (nI a) (nI b) (nI s) (nI (hP P (stg P 0 (P 46)) a b).1)) F 0 u = some (r, u') ∧ FF (tn P a b s) 21 r ∧ eqT u u' := by
  have hb0 := hP_bd hPg (stg P 0 (P 46)) ha hb
  refine lq1_up (n := 21) (I := fun i w => (∀ m, m < i → tn P a b s m = false) ∧ eqT u w) (Q := fun o => ∃ (r : Int32) (u' : St), o = some (r, u') ∧ FF (tn P a b s) 21 r ∧ eqT u u') ?_ ?_ 21 0 F u (by omega) (by omega) ⟨fun m hm => by omega, eqT.rf⟩
  · rintro g w ⟨h1, hw⟩
    refine ⟨-4, w, ?_, Or.inr ⟨h1, rfl⟩, hw⟩
    unfold bX6_turn_47
    rw [if_pos (show (20 : Int32) < nI 21 by decide)]
  · rintro g i w hi ⟨h1, hw⟩
    obtain ⟨y, y1, y2, y3⟩ := X_prepP F (by omega) w hc4 hj3 hPg (hX.eq (by omega) hw.x) ha hb (aw := 0) (by omega)
    obtain ⟨z, z1, z2, z3⟩ := X_blowP F (s := s) y hPg y2 hi (by omega)
    obtain ⟨t, t1, -, t3⟩ := X_heldP F (by omega) (S := stm P 0 i s (P 46)) z hPg ha hb (fun m => stm_lt hPg 0 i (by omega) m) z2
    have hbd := hP_bd hPg (stm P 0 i s (P 46)) ha hb
    have hrun : bX6_turn_47 F (nI a) (nI b) (nI s) (nI (hP P (stg P 0 (P 46)) a b).1) g (nI i) w = if (hP P (stm P 0 i s (P 46)) a b).1 = (hP P (stg P 0 (P 46)) a b).1 then g (nI (i + 1)) t else some (nI i, t) := by
      unfold bX6_turn_47 pX6_prepare
      rw [if_neg (show ¬ (20 : Int32) < nI i from by rw [L20]; exact nlt (by omega) (by omega)), show (0 : Int32) = nI 0 from rfl, y1]
      simp only [bd_s]
      rw [z1, bd_s, t1, bd_s, nI_s, ifeq (by omega) (by omega)]
    by_cases q : (hP P (stm P 0 i s (P 46)) a b).1 = (hP P (stg P 0 (P 46)) a b).1
    · refine Or.inr ⟨t, ?_, fun m hm => ?_, ((hw.tr y3).tr z3).tr t3⟩
      · rw [hrun, if_pos q]
      · by_cases z : m = i
        · rw [z]; exact decide_eq_false (fun n => n q)
        · exact h1 m (by omega)
    · refine Or.inl ⟨nI i, t, ?_, Or.inl ⟨i, hi, decide_eq_true q, h1, rfl⟩, ((hw.tr y3).tr z3).tr t3⟩
      rw [hrun, if_neg q]
def eqS (v v' : St) : Prop := (∀ k, k ≠ 16 → k ≠ 17 → k ≠ 18 → v'.1 k = v.1 k) ∧ (∀ k, k ≠ 0 → v'.2 k = v.2 k) ∧ ∀ i, (i < 272 ∨ 408 ≤ i) → v'.2 0 i = v.2 0 i
theorem M_turn (F : Nat) (hF : 200 ≤ F) {c jn a b s : Nat} {P : Nat → Nat} (v : St) (hc4 : c ≤ 4) (hj3 : jn ≤ 3) (hPg : PgOK c jn P) (hM : PgM 0 P v) (hE : MEnv 0 0 0 v) (ha : a < c) (hb : b < jn) (hs : s ≤ 9) : ∃ r v', lq2 (bX7_turn_39 F (nI a) (nI b) (nI s) (nI (hP P (stg P 0 (P 46)) a b).1) (jX7_turn_91 F)) F (-4) 0 v = some (r, v') ∧ FF (tn P a b s) 21 r ∧ eqM v v' := by
  have hb0 := hP_bd hPg (stg P 0 (P 46)) ha hb
  obtain ⟨e1, e2, e3, e4, e5, e6, e7⟩ := hE
  have fin : ∀ x w, FF (tn P a b s) 21 x → eqS v w → ∃ r v', jX7_turn_91 F x w = some (r, v') ∧ FF (tn P a b s) 21 r ∧ eqM v v' := fun x w hx hw => by
    refine ⟨x, stf w 17 0, rfl, hx, fun i hi => hw.2.2 i (by omega), ⟨?_, ?_, ?_, ?_, ?_, ?_, ?_, ?_⟩, fun k hk => hw.2.1 k (by omega)⟩
    · rw [stf_1, if_neg (by omega)]; exact hw.1 0 (by omega) (by omega) (by omega)
    · rw [stf_1, if_neg (by omega)]; exact hw.1 1 (by omega) (by omega) (by omega)
    · rw [stf_1, if_neg (by omega)]; exact hw.1 7 (by omega) (by omega) (by omega)
    · rw [stf_1, if_neg (by omega)]; exact hw.1 8 (by omega) (by omega) (by omega)
    · rw [stf_1, if_neg (by omega)]; exact hw.1 15 (by omega) (by omega) (by omega)
    · rw [stf_1, if_pos rfl, e4]; rfl
    · rw [stf_1, if_neg (by omega)]; exact hw.1 21 (by omega) (by omega) (by omega)
    · rw [stf_1, if_neg (by omega)]; exact hw.1 22 (by omega) (by omega) (by omega)
  refine lq2_up (n := 21) (I := fun i x w => FF (tn P a b s) i x ∧ eqS v w) (Q := fun o => ∃ (r : Int32) (v' : St), o = some (r, v') ∧ FF (tn P a b s) 21 r ∧ eqM v v') ?_ ?_ 21 0 F (-4) v (by omega) (by omega) ⟨Or.inr ⟨fun m hm => by omega, rfl⟩, fun _ _ _ _ => rfl, fun _ _ => rfl, fun _ _ => rfl⟩
  · rintro g x w ⟨h1, hw⟩
    unfold bX7_turn_39
    rw [if_pos (show (20 : Int32) < nI 21 by decide)]
    exact fin x w h1 hw
  · rintro g i x w hi ⟨h1, hw⟩
    rcases h1 with ⟨m, m1, m2, m3, rfl⟩ | ⟨h1, rfl⟩
    · refine Or.inl ?_
      unfold bX7_turn_39
      rw [if_neg (show ¬ (20 : Int32) < nI i from by rw [L20]; exact nlt (by omega) (by omega)), if_neg (m4_lt (by omega)).2.1]
      exact fin _ w (Or.inl ⟨m, by omega, m2, m3, rfl⟩) hw
    · have y2 : PgM 0 P (stf (stf w 16 (nI i)) 17 (nI s)) := fun k hk => (hw.2.2 _ (by omega)).trans (hM k hk)
      have y3 : MEnv 0 i s (stf (stf w 16 (nI i)) 17 (nI s)) := ⟨by omega, (hw.1 15 (by omega) (by omega) (by omega)).trans e2, Or.inr rfl, rfl, by omega, by omega, (hw.2.1 1 (by omega)).trans e7⟩
      obtain ⟨t, t1, t2⟩ := M_triesP F (by omega) (p := 0) (stf (stf w 16 (nI i)) 17 (nI s)) (by omega) (by omega) hc4 hj3 hPg y2 y3 ha hb
      have hbd := hP_bd hPg (stm P 0 i s (P 46)) ha hb
      have ht : eqS v t := ⟨fun k h1 h2 h3 => by rw [t2.1 k h3, stf_1, if_neg h2, stf_1, if_neg h1, hw.1 k h1 h2 h3], fun k hk => (t2.2.1 k hk).trans (hw.2.1 k hk), fun k hk => (t2.2.2 k hk).trans (hw.2.2 k hk)⟩
      have t1' : pX7_tries F 0 (nI a) (nI b) (stf (stf w 16 (nI i)) 17 (nI s)) = some (nI (hP P (stm P 0 i s (P 46)) a b).1, t) := t1
      have hrun : bX7_turn_39 F (nI a) (nI b) (nI s) (nI (hP P (stg P 0 (P 46)) a b).1) (jX7_turn_91 F) g (-4) (nI i) w = if (hP P (stm P 0 i s (P 46)) a b).1 = (hP P (stg P 0 (P 46)) a b).1 then g (-4) (nI (i + 1)) t else g (nI i) (nI (i + 1)) t := by
        unfold bX7_turn_39
        rw [if_neg (show ¬ (20 : Int32) < nI i from by rw [L20]; exact nlt (by omega) (by omega)), if_pos rfl, vl_e, vl_e, t1', bd_s, nI_s]
        simp only [jn_e]
        rw [ifeq (by omega) (by omega)]
      by_cases q : (hP P (stm P 0 i s (P 46)) a b).1 = (hP P (stg P 0 (P 46)) a b).1
      · refine Or.inr ⟨-4, t, ?_, Or.inr ⟨fun m hm => ?_, rfl⟩, ht⟩
        · rw [hrun, if_pos q]
        · by_cases z : m = i
          · rw [z]; exact decide_eq_false (fun n => n q)
          · exact h1 m (by omega)
      · refine Or.inr ⟨nI i, t, ?_, Or.inl ⟨i, by omega, decide_eq_true q, h1, rfl⟩, ht⟩
        rw [hrun, if_neg q]
theorem st_turn (F : Nat) (hLF : 200 ≤ F) {u v : St} (h : RR u v) (x0 x1 x2 : Int32) : ∃ (r : Int32) (u' v' : St), pX6_turn F x0 x1 x2 u = some (r, u') ∧ pX7_turn F x0 x1 x2 v = some (r, v') ∧ RR u' v' := by
  obtain ⟨c, jn, P, ⟨c1, c2, c3, hX, c5, c6, c7⟩, i0, i1, hs, ht, hw, htn, hsh, hc⟩ := id h
  unfold pX6_turn pX7_turn pX7_isHeard
  rcases two_case x0 c1 hX.1 c5 with ⟨a, a1, rfl, e, e'⟩ | ⟨e, e'⟩
  · rcases two_judge x1 c2 hX.2.1 c6 with ⟨b, b1, rfl, k, k'⟩ | ⟨k, k'⟩
    · rcases rng x2 (a0 := 1) (b0 := 9) (a1 := 1) (b1 := 9) 1 9 rfl rfl rfl rfl (by omega) (by omega) with ⟨s, s1, s2, rfl, q, q'⟩ | ⟨-, q, q'⟩
      · simp only [e, e', k, k', q, q', bd_s, i10, jn_e]
        obtain ⟨u1, g1, g2⟩ := X_nowP F (by omega) u c1 c2 c3 hX a1 b1
        obtain ⟨v1, m1, m2⟩ := M_tries0 F (by omega) v c1 c2 c3 c7 (menv0 hc) a1 b1
        obtain ⟨r, u', p1, p2, p3⟩ := X_turn F hLF (s := s) u1 c1 c2 c3 (hX.eq (by omega) g2.x) a1 b1 (by omega)
        obtain ⟨r', v', n1, n2, n3⟩ := M_turn F hLF (s := s) v1 c1 c2 c3 (m2.pg c7) (m2.env (menv0 hc)) a1 b1 (by omega)
        have er := p2.un n2
        subst er
        rw [g1, m1, bd_s, bd_s]
        exact ⟨r, u', v', p1, n1, h.eq (g2.tr p3).x (m2.m.tr n3)⟩
      · simp only [e, e', k, k', q, q', bd_s, i10, i00]
        exact ⟨_, _, _, rfl, rfl, h⟩
    · simp only [e, e', k, k', bd_s, i10, i00]
      exact ⟨_, _, _, rfl, rfl, h⟩
  · simp only [e, e', bd_s, i00]
    exact ⟨_, _, _, rfl, rfl, h⟩
theorem step_turn {u v : St} (h : RR u v) (x0 x1 x2 : Int32) : ∃ (r : Int32) (u' v' : St), pX6_turn LF x0 x1 x2 u = some (r, u') ∧ pX7_turn LF x0 x1 x2 v = some (r, v') ∧ RR u' v' := st_turn LF (by decide) h x0 x1 x2
/-! sure, rest: the table of guards -/
def gP (P : Nat → Nat) (a x y : Nat) : Nat → Nat := pu (pu P (16 + 2 * a) x) (16 + (2 * a + 1)) y
def gG (P : Nat → Nat) (a b x y : Nat) : Nat := (hP (gP P a x y) (stg P 0 (P 46)) a b).1
theorem gP_ok {c jn a x y : Nat} {P : Nat → Nat} (h : PgOK c jn P) (hc : c ≤ 4) (hj : jn ≤ 3) (ha : a < c) (hx : x ≤ 9) (hy : y ≤ 9) : PgOK c jn (gP P a x y) := (h.put hc hj (by omega) (by omega) (by omega) (by omega) (by omega) (by omega) (by omega) (by omega) (by omega)).put hc hj (by omega) (by omega) (by omega) (by omega) (by omega) (by omega) (by omega) (by omega) (by omega)
theorem gG_bd {c jn a b x y : Nat} {P : Nat → Nat} (h : PgOK c jn P) (hc : c ≤ 4) (hj : jn ≤ 3) (ha : a < c) (hb : b < jn) (hx : x ≤ 9) (hy : y ≤ 9) : 1 ≤ gG P a b x y ∧ gG P a b x y ≤ 3 := by
  have := hP_bd (gP_ok h hc hj ha hx hy) (stg P 0 (P 46)) ha hb
  exact ⟨this.1, this.2.1⟩
theorem dv10 : ∀ k, k < 100 → nI k / 10 = nI (k / 10) ∧ irm (nI k) 10 = nI (k % 10) := by decide +kernel
theorem nz10 : nz 10 = true := by decide +kernel
def eqF (u u' : St) : Prop := (∀ k, (k < 24 ∨ 26 < k) → u'.1 k = u.1 k) ∧ ∀ k, k ≠ 52 → (k < 55 ∨ 58 < k) → u'.2 k = u.2 k
theorem eqF.x {u u' : St} (h : eqF u u') : eqX u u' := ⟨fun k q => h.1 k (by omega), fun k q => h.2 k (by omega) (by omega)⟩
theorem X_fill (F : Nat) (hF : 200 ≤ F) {c jn a b : Nat} {P : Nat → Nat} (u : St) (hc4 : c ≤ 4) (hj3 : jn ≤ 3) (hPg : PgOK c jn P) (hX : CtX 0 c jn P u) (ha : a < c) (hb : b < jn) : ∃ u', pX6_fillVerdictsByGuards F (nI a) (nI b) u = some ((), u') ∧ (∀ k, k < 100 → u'.2 52 k = nI (gG P a b (k / 10) (k % 10))) ∧ eqF u u' := by
  unfold pX6_fillVerdictsByGuards
  refine lq1_up (n := 100) (I := fun i w => (∀ k, k < i → w.2 52 k = nI (gG P a b (k / 10) (k % 10))) ∧ eqF u w) (Q := fun o => ∃ u' : St, o = some ((), u') ∧ (∀ k, k < 100 → u'.2 52 k = nI (gG P a b (k / 10) (k % 10))) ∧ eqF u u') ?_ ?_ 100 0 F u (by omega) (by omega) ⟨fun m hm => by omega, fun _ _ => rfl, fun _ _ _ => rfl⟩
  · rintro g w ⟨h1, hw⟩
    refine ⟨w, ?_, h1, hw⟩
    unfold bX6_fillVerdictsByGuards_2
    rw [if_pos (show (100 : Int32) ≤ nI 100 by decide)]
  · rintro g i w hi ⟨h1, hw⟩
    obtain ⟨y, y1, y2, y3⟩ := X_prepP F (by omega) w hc4 hj3 hPg (hX.eq (by omega) hw.x) ha hb (aw := 0) (by omega)
    obtain ⟨z, z1, z2, z3⟩ := X_change F (s := 0) (d := 2) (x := i / 10) y y2 (by omega) (by omega) (by omega)
    obtain ⟨z', z1', z2', z3'⟩ := X_change F (s := 1) (d := 2) (x := i % 10) z z2 (by omega) (by omega) (by omega)
    have hk : PgOK c jn (gP P a (i / 10) (i % 10)) := gP_ok hPg hc4 hj3 ha (by omega) (by omega)
    have z2'' : TP (gP P a (i / 10) (i % 10)) (stg P 0 (P 46)) a b z' := z2'
    obtain ⟨t, t1, -, t3⟩ := X_heldP F (by omega) z' hk ha hb (fun m => stg_lt hPg 0 m) z2''
    have e4 : eqT w t := ((y3.tr z3).tr z3').tr t3
    refine Or.inr ⟨sta t 52 (nI i) (nI (gG P a b (i / 10) (i % 10))), ?_, fun k hk => ?_, fun k hk => (e4.1 k hk).trans (hw.1 k hk), fun k h1 h2 => by rw [sta_m _ _ _ h1, e4.2 k h2, hw.2 k h1 h2]⟩
    · obtain ⟨d1, d2⟩ := dv10 i hi
      unfold bX6_fillVerdictsByGuards_2 pX6_prepare
      rw [if_neg (show ¬ (100 : Int32) ≤ nI i from by rw [L100]; exact nle hi (by omega)), d1, d2, nz10, nI_s]
      simp only [gd_true]
      have y1' : pX5_prepare F (nI a) (nI b) 0 w = some ((), y) := y1
      have w1 : pX5_change F 0 2 (nI (i / 10)) y = some ((), z) := z1
      have w2 : pX5_change F 1 2 (nI (i % 10)) z = some ((), z') := z1'
      rw [y1']
      simp only [bd_s]
      rw [w1, bd_s, w2, bd_s, t1, bd_s, gd_i hi (by omega), vl_e]
      rfl
    · rw [sta_h _ _ (by omega)]
      by_cases q : k = i
      · rw [if_pos q, q]
      · rw [if_neg q, e4.2 52 (by omega)]; exact h1 k (by omega)
/-- wins whatever the other's hand is -/
def ww (P : Nat → Nat) (a b s x : Nat) : Bool := al (fun o => decide (gG P a b (if s = 0 then x else o) (if s = 0 then o else x) = s + 1)) 10
theorem X_wins (F : Nat) (hF : 80 ≤ F) {c jn a b s x : Nat} {P : Nat → Nat} (w : St) (hc4 : c ≤ 4) (hj3 : jn ≤ 3) (hPg : PgOK c jn P) (ha : a < c) (hb : b < jn) (ht : ∀ k, k < 100 → w.2 52 k = nI (gG P a b (k / 10) (k % 10))) (hs : s < 2) (hx : x < 10) : pX6_winsWhateverTheOther F (nI s) (nI x) w = some (if ww P a b s x = true then 1 else 0, w) := by
  unfold pX6_winsWhateverTheOther
  refine lq1_up (n := 10) (I := fun i y => y = w ∧ ∀ o, o < i → decide (gG P a b (if s = 0 then x else o) (if s = 0 then o else x) = s + 1) = true) (Q := fun o => o = some (if ww P a b s x = true then 1 else 0, w)) ?_ ?_ 10 0 F w (by omega) (by omega) ⟨rfl, fun o ho => by omega⟩
  · rintro g y ⟨rfl, h1⟩
    unfold bX6_winsWhateverTheOther_2
    have e : ww P a b s x = true := by
      unfold ww
      rcases hq : al (fun o => decide (gG P a b (if s = 0 then x else o) (if s = 0 then o else x) = s + 1)) 10 with _ | _
      · exfalso
        have k : ∀ n, n ≤ 10 → al (fun o => decide (gG P a b (if s = 0 then x else o) (if s = 0 then o else x) = s + 1)) n = true := fun n hn => by
          induction n with
          | zero => rfl
          | succ n ih =>
            unfold al
            rw [ih (by omega), h1 n (by omega)]
            rfl
        rw [k 10 (by omega)] at hq
        exact absurd hq (by decide)
      · rfl
    rw [if_pos (show (10 : Int32) ≤ nI 10 by decide), if_pos e]
  · rintro g i y hi ⟨rfl, h1⟩
    have hv : ∀ k, k = (if s = 0 then 10 * x + i else 10 * i + x) → y.2 52 k = nI (gG P a b (if s = 0 then x else i) (if s = 0 then i else x)) := fun k hk => by
      by_cases q : s = 0
      · rw [if_pos q] at hk
        rw [ht k (by omega), if_pos q, if_pos q, show k / 10 = x by omega, show k % 10 = i by omega]
      · rw [if_neg q] at hk
        rw [ht k (by omega), if_neg q, if_neg q, show k / 10 = i by omega, show k % 10 = x by omega]
    have hrun : bX6_winsWhateverTheOther_2 F (nI s) (nI x) g (nI i) y = if gG P a b (if s = 0 then x else i) (if s = 0 then i else x) = s + 1 then g (nI (i + 1)) y else some (0, y) := by
      have hb' := gG_bd hPg hc4 hj3 ha hb (x := if s = 0 then x else i) (y := if s = 0 then i else x) (by split <;> omega) (by split <;> omega)
      unfold bX6_winsWhateverTheOther_2
      rw [if_neg (show ¬ (10 : Int32) ≤ nI i from by rw [L10]; exact nle hi (by omega))]
      simp only [jn_e, tm10, nI_add, nI_s]
      by_cases q : s = 0
      · have hv' := hv _ rfl
        rw [if_pos q] at hv'
        rw [if_pos (show nI s = 0 by rw [q]; rfl), gd_i (by omega) (by omega), cl (by omega), hv', ifeq (by omega) (by omega)]
      · have hv' := hv _ rfl
        rw [if_neg q] at hv'
        rw [if_neg (n0f q (by omega)), gd_i (by omega) (by omega), cl (by omega), hv', ifeq (by omega) (by omega)]
    by_cases q : gG P a b (if s = 0 then x else i) (if s = 0 then i else x) = s + 1
    · refine Or.inr ⟨y, by rw [hrun, if_pos q], rfl, fun o ho => ?_⟩
      by_cases z : o = i
      · rw [z]; exact decide_eq_true q
      · exact h1 o (by omega)
    · refine Or.inl ?_
      have e : ww P a b s x = false := al_f hi (decide_eq_false q)
      rw [hrun, if_neg q, e, if_neg (by decide)]
theorem M_guards (F : Nat) (hF : 80 ≤ F) {c jn a b x y : Nat} {P : Nat → Nat} (v : St) (hc4 : c ≤ 4) (hj3 : jn ≤ 3) (hPg : PgOK c jn P) (hM : PgM 0 P v) (hE : MEnv 0 0 0 v) (ha : a < c) (hb : b < jn) (hx : x ≤ 9) (hy : y ≤ 9) : ∃ v', pX7_byGuards F (nI a) (nI b) (nI x) (nI y) v = some (nI (gG P a b x y), v') ∧ eqR v v' := by
  obtain ⟨w, w1, w2, w3⟩ := M_other F hF v hM
  have e0 := (w3.st5 (k := 16 + 2 * a) (by omega) (nI x)).st5 (k := 16 + (2 * a + 1)) (by omega) (nI y)
  have m0 := pg5 (pg5 w2 (k := 16 + 2 * a) (x := x) (by omega)) (k := 16 + (2 * a + 1)) (x := y) (by omega)
  have m0' : PgM 5 (gP P a x y) (sta (sta w 0 (nI (340 + (16 + 2 * a))) (nI x)) 0 (nI (340 + (16 + (2 * a + 1)))) (nI y)) := m0
  obtain ⟨t, t1, t2⟩ := M_triesP F hF (p := 5) _ (by omega) (by omega) hc4 hj3 (gP_ok hPg hc4 hj3 ha hx hy) m0' (e0.env hE) ha hb
  have es : stm (gP P a x y) 0 0 0 (gP P a x y 46) = stg P 0 (P 46) := by
    rw [stm_0]
    unfold gP
    rw [stg_pu46 _ (by omega), stg_pu46 _ (by omega)]
  rw [es] at t1
  refine ⟨t, ?_, e0.tr t2⟩
  unfold pX7_byGuards
  rw [w1, bd_s, tm2, show (356 : Int32) = nI 356 from rfl, nI_add, nI_s, gd_i (by omega) (by omega), vl_e, gd_i (by omega) (by omega), vl_e, show 356 + 2 * a = 340 + (16 + 2 * a) by omega, show 340 + (16 + 2 * a) + 1 = 340 + (16 + (2 * a + 1)) by omega, show (340 : Int32) = nI (68 * 5) from rfl, t1]
  rfl
theorem st_sure (F : Nat) (hLF : 200 ≤ F) {u v : St} (h : RR u v) (x0 x1 x2 : Int32) : ∃ (r : Int32) (u' v' : St), pX6_sure F x0 x1 x2 u = some (r, u') ∧ pX7_sure F x0 x1 x2 v = some (r, v') ∧ RR u' v' := by
  obtain ⟨c, jn, P, ⟨c1, c2, c3, hX, c5, c6, c7⟩, i0, i1, hs, ht, hw, htn, hsh, hc⟩ := id h
  unfold pX6_sure pX6_isFlame pX7_sure pX7_isHeard
  rcases two_case x0 c1 hX.1 c5 with ⟨a, a1, rfl, e, e'⟩ | ⟨e, e'⟩
  · rcases two_judge x2 c2 hX.2.1 c6 with ⟨b, b1, rfl, k, k'⟩ | ⟨k, k'⟩
    · rcases two_side x1 with ⟨s, s1, rfl, q, q'⟩ | ⟨q, q'⟩
      · simp only [e, e', k, k', q, q', bd_s, i10]
        obtain ⟨u1, g1, g2, g3⟩ := X_fill F hLF u c1 c2 c3 hX a1 b1
        have pX : ∃ r, lq1 (bX6_sure_31 F (nI s)) F 0 u1 = some (r, u1) ∧ FF (ww P a b s) 10 r := by
          refine lq1_up (n := 10) (I := fun i y => y = u1 ∧ ∀ o, o < i → ww P a b s o = false) (Q := fun o => ∃ r : Int32, o = some (r, u1) ∧ FF (ww P a b s) 10 r) ?_ ?_ 10 0 F u1 (by omega) (by omega) ⟨rfl, fun o ho => by omega⟩
          · rintro g y ⟨rfl, h1⟩
            refine ⟨-4, ?_, Or.inr ⟨h1, rfl⟩⟩
            unfold bX6_sure_31
            rw [if_pos (show (10 : Int32) ≤ nI 10 by decide)]
          · rintro g i y hi ⟨rfl, h1⟩
            have hr := X_wins F (by omega) y c1 c2 c3 a1 b1 g2 s1 hi
            have hrun : bX6_sure_31 F (nI s) g (nI i) y = if ww P a b s i = true then some (nI i, y) else g (nI (i + 1)) y := by
              unfold bX6_sure_31
              rw [if_neg (show ¬ (10 : Int32) ≤ nI i from by rw [L10]; exact nle hi (by omega)), hr, bd_s, nI_s]
              by_cases z : ww P a b s i = true
              · rw [if_pos z, if_pos z, if_neg (by decide)]
              · rw [if_neg z, if_neg z, if_pos rfl]
            by_cases z : ww P a b s i = true
            · exact Or.inl ⟨nI i, by rw [hrun, if_pos z], Or.inl ⟨i, hi, z, h1, rfl⟩⟩
            · refine Or.inr ⟨y, by rw [hrun, if_neg z], rfl, fun o ho => ?_⟩
              by_cases t : o = i
              · rw [t]; exact Bool.eq_false_iff.mpr z
              · exact h1 o (by omega)
        have pM : ∃ r v', lq1 (bX7_sure_21 F (nI a) (nI s) (nI b)) F 0 v = some (r, v') ∧ FF (ww P a b s) 10 r ∧ eqR v v' := by
          refine lq1_up (n := 10) (I := fun i y => eqR v y ∧ ∀ o, o < i → ww P a b s o = false) (Q := fun o => ∃ (r : Int32) (v' : St), o = some (r, v') ∧ FF (ww P a b s) 10 r ∧ eqR v v') ?_ ?_ 10 0 F v (by omega) (by omega) ⟨eqR.rf, fun o ho => by omega⟩
          · rintro g y ⟨hy, h1⟩
            refine ⟨-4, y, ?_, Or.inr ⟨h1, rfl⟩, hy⟩
            unfold bX7_sure_21
            rw [if_pos (show (9 : Int32) < nI 10 by decide)]
          · rintro g i y hi ⟨hy, h1⟩
            have inner : ∃ y', lq2 (bX7_sure_34 F (nI a) (nI s) (nI b) (nI i) (jX7_sure_93 F (nI i) g)) F 1 0 y = jX7_sure_93 F (nI i) g (if ww P a b s i = true then 1 else 0) y' ∧ eqR v y' := by
              refine lq2_up (n := 10) (I := fun o x t => x = (if al (fun o => decide (gG P a b (if s = 0 then i else o) (if s = 0 then o else i) = s + 1)) o = true then 1 else 0) ∧ eqR v t) (Q := fun o => ∃ y' : St, o = jX7_sure_93 F (nI i) g (if ww P a b s i = true then 1 else 0) y' ∧ eqR v y') ?_ ?_ 10 0 F 1 y (by omega) (by omega) ⟨rfl, hy⟩
              · rintro g' x t ⟨rfl, h3⟩
                refine ⟨t, ?_, h3⟩
                unfold bX7_sure_34
                rw [if_pos (show (9 : Int32) < nI 10 by decide)]
                rfl
              · rintro g' o x t ho ⟨rfl, h3⟩
                rcases hq : al (fun o => decide (gG P a b (if s = 0 then i else o) (if s = 0 then o else i) = s + 1)) o with _ | _
                · refine Or.inr ⟨0, t, ?_, ?_, h3⟩
                  · unfold bX7_sure_34
                    rw [if_neg (show ¬ (9 : Int32) < nI o from by rw [L9]; exact nlt (by omega) (by omega)), if_neg (by decide), nI_s]
                    simp only [jn_e, if_true]
                  · unfold al
                    rw [hq, Bool.false_and, if_neg (by decide)]
                · have bx : (if s = 0 then i else o) ≤ 9 := by split <;> omega
                  have by' : (if s = 0 then o else i) ≤ 9 := by split <;> omega
                  obtain ⟨t', t1, t2⟩ := M_guards F (by omega) t c1 c2 c3 (h3.pg c7) (h3.env (menv0 hc)) a1 b1 bx by'
                  have hb' := gG_bd c3 c1 c2 a1 b1 bx by'
                  have hrun : bX7_sure_34 F (nI a) (nI s) (nI b) (nI i) (jX7_sure_93 F (nI i) g) g' 1 (nI o) t = g' (if gG P a b (if s = 0 then i else o) (if s = 0 then o else i) = s + 1 then 1 else 0) (nI (o + 1)) t' := by
                    unfold bX7_sure_34
                    rw [if_neg (show ¬ (9 : Int32) < nI o from by rw [L9]; exact nlt (by omega) (by omega)), nI_s, nI_s]
                    simp only [jn_e, i10]
                    by_cases z : s = 0
                    · simp only [if_pos z] at t1 hb' ⊢
                      have z' : nI s = 0 := by rw [z]; rfl
                      simp only [if_pos z', t1, bd_s]
                      rw [ifeq (by omega) (by omega)]
                      split <;> rfl
                    · simp only [if_neg z] at t1 hb' ⊢
                      simp only [if_neg (n0f z (show s < 2147483648 by omega)), t1, bd_s]
                      rw [ifeq (by omega) (by omega)]
                      split <;> rfl
                  refine Or.inr ⟨_, t', by rw [if_pos rfl, hrun], ?_, h3.tr t2⟩
                  unfold al
                  rw [hq, Bool.true_and]
                  by_cases z : gG P a b (if s = 0 then i else o) (if s = 0 then o else i) = s + 1
                  · rw [if_pos z, if_pos (decide_eq_true z)]
                  · rw [if_neg z, if_neg (by rw [decide_eq_false z]; decide)]
            obtain ⟨y', y1, y2⟩ := inner
            have hrun : bX7_sure_21 F (nI a) (nI s) (nI b) g (nI i) y = if ww P a b s i = true then some (nI i, y') else g (nI (i + 1)) y' := by
              unfold bX7_sure_21
              rw [if_neg (show ¬ (9 : Int32) < nI i from by rw [L9]; exact nlt (by omega) (by omega)), jn_e, y1]
              unfold jX7_sure_93
              rw [nI_s]
              by_cases z : ww P a b s i = true
              · rw [if_pos z, if_pos z, if_neg (by decide)]
              · rw [if_neg z, if_neg z, if_pos rfl]
            by_cases z : ww P a b s i = true
            · exact Or.inl ⟨nI i, y', by rw [hrun, if_pos z], Or.inl ⟨i, hi, z, h1, rfl⟩, y2⟩
            · refine Or.inr ⟨y', by rw [hrun, if_neg z], y2, fun o ho => ?_⟩
              by_cases t : o = i
              · rw [t]; exact Bool.eq_false_iff.mpr z
              · exact h1 o (by omega)
        obtain ⟨r, p1, p2⟩ := pX
        obtain ⟨r', v', n1, n2, n3⟩ := pM
        have er := p2.un n2
        subst er
        rw [g1, bd_s]
        exact ⟨r, u1, v', p1, n1, h.eq g3.x n3.m⟩
      · simp only [e, e', k, k', q, q', bd_s, i10, i00]
        exact ⟨_, _, _, rfl, rfl, h⟩
    · rcases two_side x1 with ⟨s, s1, rfl, q, q'⟩ | ⟨q, q'⟩
      · simp only [e, e', k, k', q, q', bd_s, i10, i00]
        exact ⟨_, _, _, rfl, rfl, h⟩
      · simp only [e, e', k, k', q, q', bd_s, i10, i00]
        exact ⟨_, _, _, rfl, rfl, h⟩
  · simp only [e, e', bd_s, i00]
    exact ⟨_, _, _, rfl, rfl, h⟩
theorem step_sure {u v : St} (h : RR u v) (x0 x1 x2 : Int32) : ∃ (r : Int32) (u' v' : St), pX6_sure LF x0 x1 x2 u = some (r, u') ∧ pX7_sure LF x0 x1 x2 v = some (r, v') ∧ RR u' v' := st_sure LF (by decide) h x0 x1 x2
