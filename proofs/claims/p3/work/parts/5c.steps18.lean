/-! PURE: by the docket -/
def dkV (P S : Nat → Nat) : Nat → Nat → Nat
  | 0 => fun k => P (24 + k)
  | i + 1 => if dkV P S i (P (56 + i)) = 0 then pu (dkV P S i) (P (56 + i)) (hP P S (P (56 + i)) (P (62 + i))).1 else dkV P S i
def dkF (P S : Nat → Nat) : Nat → Int32
  | 0 => -4
  | i + 1 => if dkV P S i (P (56 + i)) = 0 then dkF P S i else if dkF P S i = -4 then nI i else dkF P S i
def dkM (P S : Nat → Nat) : Nat → Nat
  | 0 => 0
  | i + 1 => if dkV P S i (P (56 + i)) = 0 then dkM P S i + ((hP P S (P (56 + i)) (P (62 + i))).2.1 + 1) else dkM P S i
theorem dkV_bd {c jn : Nat} {P : Nat → Nat} (h : PgOK c jn P) (S : Nat → Nat) : ∀ n, n ≤ P 55 → ∀ k, k < c → dkV P S n k ≤ 3
  | 0, _, k, hk => (h.2.2.2.1 k hk).1
  | n + 1, hn, k, hk => by
    obtain ⟨d1, d2⟩ := h.2.2.2.2.2.2 n (by omega)
    have hb := hP_bd h S d1 d2
    have ih := dkV_bd h S n (by omega) k hk
    unfold dkV
    split
    · unfold pu
      split
      · exact hb.2.1
      · exact ih
    · exact ih
/-! the class's round -/
def eqG (u u' : St) : Prop := (∀ k, (k < 24 ∨ 28 < k) → u'.1 k = u.1 k) ∧ ∀ k, (k < 55 ∨ 59 < k) → u'.2 k = u.2 k
theorem eqG.rf {u : St} : eqG u u := ⟨fun _ _ => rfl, fun _ _ => rfl⟩
theorem eqG.tr {u w x : St} (h : eqG u w) (h2 : eqG w x) : eqG u x := ⟨fun k q => (h2.1 k q).trans (h.1 k q), fun k q => (h2.2 k q).trans (h.2 k q)⟩
theorem eqG.x {u u' : St} (h : eqG u u') : eqX u u' := ⟨fun k q => h.1 k (by omega), fun k q => h.2 k (by omega)⟩
theorem X_docket (F : Nat) (hF : 80 ≤ F) {c jn aw : Nat} {P : Nat → Nat} (u : St) (hc4 : c ≤ 4) (hj3 : jn ≤ 3) (hPg : PgOK c jn P) (hX : CtX 0 c jn P u) (ha : aw < 16) : ∃ u', pX3_goByDocket F (nI aw) u = some ((), u') ∧ (∀ k, k < c → u'.2 59 k = nI (dkV P (stg P aw (P 46)) (P 55) k)) ∧ u'.1 27 = dkF P (stg P aw (P 46)) (P 55) ∧ u'.1 28 = nI (dkM P (stg P aw (P 46)) (P 55)) ∧ eqG u u' := by
  obtain ⟨w0, g1, g2, g3, g4⟩ := X_row F (a := 3) (b := 59) (n := 4) u rfl rfl (by omega)
  have h55 := hPg.2.1
  unfold pX3_goByDocket
  rw [g1, bd_s, vl_e, vl_e]
  refine lq1_up (n := P 55) (I := fun i w => (∀ k, k < c → w.2 59 k = nI (dkV P (stg P aw (P 46)) i k)) ∧ w.1 27 = dkF P (stg P aw (P 46)) i ∧ w.1 28 = nI (dkM P (stg P aw (P 46)) i) ∧ eqG u w) (Q := fun o => ∃ u' : St, o = some ((), u') ∧ (∀ k, k < c → u'.2 59 k = nI (dkV P (stg P aw (P 46)) (P 55) k)) ∧ u'.1 27 = dkF P (stg P aw (P 46)) (P 55) ∧ u'.1 28 = nI (dkM P (stg P aw (P 46)) (P 55)) ∧ eqG u u') ?_ ?_ (P 55) 0 F _ (by omega) (by omega) ⟨fun k hk => ?_, rfl, rfl, fun k hk => ?_, fun k hk => g3 k (by omega)⟩
  · rintro g w ⟨h1, h2, h3, h4⟩
    refine ⟨w, ?_, h1, h2, h3, h4⟩
    have e3 : w.1 3 = nI (P 55) := (h4.1 3 (by omega)).trans hX.2.2.2.1
    unfold bX3_goByDocket_25
    rw [e3, if_pos (yle (Nat.le_refl _) (by omega))]
  · rintro g i w hi ⟨h1, h2, h3, h4⟩
    have hX' := hX.eq (by omega) h4.x
    have e3 : w.1 3 = nI (P 55) := hX'.2.2.2.1
    obtain ⟨d1, d2⟩ := hPg.2.2.2.2.2.2 i hi
    obtain ⟨e11, e12⟩ := hX'.2.2.2.2.2.2.2.2 i hi
    have e11' : w.2 11 i = nI (P (56 + i)) := e11
    have e12' : w.2 12 i = nI (P (62 + i)) := e12
    have e59 := h1 _ d1
    have hv := dkV_bd hPg (stg P aw (P 46)) i (by omega) _ d1
    by_cases q : dkV P (stg P aw (P 46)) i (P (56 + i)) = 0
    · obtain ⟨y, y1, y2, y3⟩ := X_prepP F (by omega) w hc4 hj3 hPg hX' d1 d2 ha
      obtain ⟨t, t1, ⟨-, -, t2⟩, t3⟩ := X_heldP F (by omega) y hPg d1 d2 (fun m => stg_lt hPg aw m) y2
      have e4 := y3.tr t3
      refine Or.inr ⟨stf (sta t 59 (nI (P (56 + i))) (nI (hP P (stg P aw (P 46)) (P (56 + i)) (P (62 + i))).1)) 28 (nI (dkM P (stg P aw (P 46)) i + ((hP P (stg P aw (P 46)) (P (56 + i)) (P (62 + i))).2.1 + 1))), ?_, fun k hk => ?_, ?_, ?_, fun k hk => ?_, fun k hk => ?_⟩
      · unfold bX3_goByDocket_25
        rw [e3, if_neg (nle hi (by omega)), gd_i (by omega) (by omega), vl_e, cl (by omega), e11', gd_i (by omega) (by omega), cl (by omega), e59, q]
        simp only [jn_e, nI_s]
        rw [if_pos (show nI 0 = 0 from rfl), gd_i (by omega) (by omega), e12', y1]
        simp only [bd_s]
        rw [t1, bd_s, gd_i (by omega) (by omega), vl_e, vl_e, sta_1, e4.1 28 (by omega), h3, t2, nI_s, nI_add]
      · show (sta t 59 (nI (P (56 + i))) (nI (hP P (stg P aw (P 46)) (P (56 + i)) (P (62 + i))).1)).2 59 k = _
        rw [sta_h _ _ (by omega), dkV, if_pos q]
        exact puI (by rw [e4.2 59 (by omega)]; exact h1 k hk) _ Iff.rfl
      · rw [stf_1, if_neg (by omega), sta_1, e4.1 27 (by omega), h2, dkF, if_pos q]
      · rw [stf_1, if_pos rfl, dkM, if_pos q]
      · rw [stf_1, if_neg (by omega), sta_1, e4.1 k (by omega), h4.1 k hk]
      · rw [stf_2, sta_m _ _ _ (by omega), e4.2 k (by omega), h4.2 k hk]
    · by_cases z : dkF P (stg P aw (P 46)) i = -4
      · refine Or.inr ⟨stf w 27 (nI i), ?_, fun k hk => ?_, ?_, ?_, fun k hk => ?_, fun k hk => ?_⟩
        · unfold bX3_goByDocket_25
          rw [e3, if_neg (nle hi (by omega)), gd_i (by omega) (by omega), vl_e, cl (by omega), e11', gd_i (by omega) (by omega), cl (by omega), e59]
          simp only [jn_e, nI_s]
          rw [if_neg (n0f q (by omega)), h2, if_pos z, vl_e]
        · rw [stf_2, dkV, if_neg q]; exact h1 k hk
        · rw [stf_1, if_pos rfl, dkF, if_neg q, if_pos z]
        · rw [stf_1, if_neg (by omega), dkM, if_neg q]; exact h3
        · rw [stf_1, if_neg (by omega)]; exact h4.1 k hk
        · rw [stf_2]; exact h4.2 k hk
      · refine Or.inr ⟨w, ?_, fun k hk => ?_, ?_, ?_, h4⟩
        · unfold bX3_goByDocket_25
          rw [e3, if_neg (nle hi (by omega)), gd_i (by omega) (by omega), vl_e, cl (by omega), e11', gd_i (by omega) (by omega), cl (by omega), e59]
          simp only [jn_e, nI_s]
          rw [if_neg (n0f q (by omega)), h2, if_neg z]
        · rw [dkV, if_neg q]; exact h1 k hk
        · rw [dkF, if_neg q, if_neg z]; exact h2
        · rw [dkM, if_neg q]; exact h3
  · show w0.2 59 k = _
    rw [g4 k (by omega)]
    exact (hX.2.2.2.2.2.1 k hk).1
  · rw [stf_1, if_neg (by omega), stf_1, if_neg (by omega), g2]
/-! the reference's round -/
theorem hP_c {P Q S : Nat → Nat} {a b : Nat} (h0 : P (2 * a) = Q (2 * a)) (h1 : P (2 * a + 1) = Q (2 * a + 1)) (h2 : P (8 + 2 * a) = Q (8 + 2 * a)) (h3 : P (8 + (2 * a + 1)) = Q (8 + (2 * a + 1))) (h4 : P (16 + 2 * a) = Q (16 + 2 * a)) (h5 : P (16 + (2 * a + 1)) = Q (16 + (2 * a + 1))) (h6 : P (40 + b) = Q (40 + b)) (h7 : P (43 + b) = Q (43 + b)) : hP P S a b = hP Q S a b := by
  unfold hP
  rw [h0, h1, h2, h3, h4, h5, h6, h7]
theorem stg_c {P Q : Nat → Nat} (h : ∀ k, 46 ≤ k → P k = Q k) (aw : Nat) : ∀ n m, stg P aw n m = stg Q aw n m
  | 0, m => rfl
  | n + 1, m => by
    unfold stg
    rw [stg_c h aw n m, h (47 + n) (by omega), h (51 + n) (by omega)]
theorem stm_a (P : Nat → Nat) (aw mm n : Nat) : stm P aw mm 0 n = stg P aw n := by
  funext m
  unfold stm
  split <;> simp
theorem M_judges2 (F : Nat) (hF : 80 ≤ F) {p c jn aw mm ms cc jj : Nat} {P : Nat → Nat} (v : St) (hp : p < 6) (hc4 : c ≤ 4) (hj3 : jn ≤ 3) (hPg : PgOK c jn P) (hM : PgM p P v) (hE : MEnv aw mm ms v) (hc : cc < c) (hj : jj < jn) :
    ∃ v', pX7_judgesOn F (nI (68 * p)) (nI cc) (nI jj) v = some (nI (hP P (stm P aw mm ms (P 46)) cc jj).1, v') ∧ PgM p (pgH P cc jj (hP P (stm P aw mm ms (P 46)) cc jj).1 (hP P (stm P aw mm ms (P 46)) cc jj).2.1 (hP P (stm P aw mm ms (P 46)) cc jj).2.2.1 (hP P (stm P aw mm ms (P 46)) cc jj).2.2.2) v' ∧ v'.1 18 = nI (hP P (stm P aw mm ms (P 46)) cc jj).2.1 ∧ (∀ k, k ≠ 18 → v'.1 k = v.1 k) ∧ (∀ k, k ≠ 0 → v'.2 k = v.2 k) ∧ (∀ i, (i < 68 * p ∨ 68 * p + 68 ≤ i) → v'.2 0 i = v.2 0 i) := by
  obtain ⟨w, g1, -, g3, -⟩ := M_hears F hF v hp hc4 hj3 hPg hM hE hc hj
  obtain ⟨v', k1, k2, k3, k4, k5⟩ := M_judges F hF v hp hc4 hj3 hPg hM hE hc hj
  refine ⟨v', k1, k2, ?_, k3, k4, k5⟩
  generalize hP P (stm P aw mm ms (P 46)) cc jj = H at *
  unfold pX7_judgesOn at k1
  rw [g1, bd_s] at k1
  simp (disch := omega) only [L24, L32, L36, L1, nI_add, gd_i, vl_e, sta_1, g3] at k1
  have e := Option.some.inj k1
  have e2 : _ = v' := congrArg Prod.snd e
  rw [← e2]
  exact g3
/-- the page tried, while the docket goes -/
def DQ (c jn : Nat) (P V Q : Nat → Nat) : Prop := PgOK c jn Q ∧ (∀ k, k < c → Q (24 + k) = V k) ∧ (∀ k, k < c → V k = 0 → Q (8 + 2 * k) = P (8 + 2 * k) ∧ Q (8 + (2 * k + 1)) = P (8 + (2 * k + 1))) ∧ (∀ f, f < 2 * c → Q f = P f ∧ Q (16 + f) = P (16 + f)) ∧ (∀ j, j < jn → Q (40 + j) = P (40 + j) ∧ Q (43 + j) = P (43 + j)) ∧ ∀ k, 46 ≤ k → Q k = P k
def eqD (v v' : St) : Prop := (∀ k, (k < 18 ∨ 20 < k) → v'.1 k = v.1 k) ∧ (∀ k, k ≠ 0 → v'.2 k = v.2 k) ∧ ∀ i, (i < 272 ∨ 340 ≤ i) → v'.2 0 i = v.2 0 i
theorem eqD.m {v v' : St} (h : eqD v v') : eqM v v' := ⟨fun i hi => h.2.2 i (by omega), ⟨h.1 _ (by omega), h.1 _ (by omega), h.1 _ (by omega), h.1 _ (by omega), h.1 _ (by omega), h.1 _ (by omega), h.1 _ (by omega), h.1 _ (by omega)⟩, fun k hk => h.2.1 k (by omega)⟩
theorem eqD.tr {u w x : St} (h : eqD u w) (h2 : eqD w x) : eqD u x := ⟨fun k q => (h2.1 k q).trans (h.1 k q), fun k q => (h2.2.1 k q).trans (h.2.1 k q), fun k q => (h2.2.2 k q).trans (h.2.2 k q)⟩
theorem eqD.pg {v v' : St} {P : Nat → Nat} {p : Nat} (h : eqD v v') (hp : p < 6) (hp4 : p ≠ 4) (hM : PgM p P v) : PgM p P v' := fun k hk => by
  rw [h.2.2 _ (by omega)]
  exact hM k hk
theorem eqD.env {v v' : St} {aw mm ms : Nat} (h : eqD v v') (hE : MEnv aw mm ms v) : MEnv aw mm ms v' := by
  obtain ⟨e1, e2, e3, e4, e5, e6, e7⟩ := hE
  refine ⟨e1, (h.1 15 (by omega)).trans e2, ?_, (h.1 17 (by omega)).trans e4, e5, e6, (h.2.1 1 (by omega)).trans e7⟩
  rw [h.1 16 (by omega)]
  exact e3
theorem DQ.s {c jn i : Nat} {P V Q S : Nat → Nat} (h : DQ c jn P V Q) (hc4 : c ≤ 4) (hj3 : jn ≤ 3) (hPg : PgOK c jn P) {a b : Nat} (ha : a < c) (hb : b < jn) : DQ c jn P (pu V a (hP P S a b).1) (pgH Q a b (hP P S a b).1 (hP P S a b).2.1 (hP P S a b).2.2.1 (hP P S a b).2.2.2) := by
  obtain ⟨q1, q2, q3, q4, q5, q6⟩ := h
  obtain ⟨b1, b2, b3, b4, b5⟩ := hP_bd hPg S ha hb
  generalize hP P S a b = H at *
  refine ⟨pgH_ok q1 hc4 hj3 ha hb b2 (by omega) b4 b5, fun k hk => ?_, fun k hk hv => ?_, fun f hf => ?_, fun j hj => ?_, fun k hk => ?_⟩
  · unfold pgH lw pu
    by_cases z : k = a
    · rw [if_pos (by omega), if_pos z]
    · rw [if_neg (by omega), if_neg (by omega), if_neg (by omega), if_neg (by omega), if_neg (by omega), if_neg z]
      exact q2 k hk
  · have z : k ≠ a := fun z => by
      rw [z, pu_s] at hv
      omega
    rw [pu_n _ z] at hv
    rw [pgH_o Q (by omega) (by omega) (by omega) (by omega) (by omega), pgH_o Q (by omega) (by omega) (by omega) (by omega) (by omega)]
    exact q3 k hk hv
  · rw [pgH_o Q (by omega) (by omega) (by omega) (by omega) (by omega), pgH_o Q (by omega) (by omega) (by omega) (by omega) (by omega)]
    exact q4 f hf
  · rw [pgH_o Q (by omega) (by omega) (by omega) (by omega) (by omega), pgH_o Q (by omega) (by omega) (by omega) (by omega) (by omega)]
    exact q5 j hj
  · rw [pgH_o Q (by omega) (by omega) (by omega) (by omega) (by omega)]
    exact q6 k hk
theorem M_docket (F : Nat) (hF : 80 ≤ F) {p c jn aw mm : Nat} {P : Nat → Nat} (v : St) (hp : p = 0 ∨ p = 5) (hc4 : c ≤ 4) (hj3 : jn ≤ 3) (hPg : PgOK c jn P) (hM : PgM p P v) (hE : MEnv aw mm 0 v) : ∃ v', pX7_docketGoes F (nI (68 * p)) v = some ((), v') ∧ (∃ Q, PgM 4 Q v' ∧ ∀ k, k < c → Q (24 + k) = dkV P (stg P aw (P 46)) (P 55) k) ∧ v'.1 19 = dkF P (stg P aw (P 46)) (P 55) ∧ v'.1 20 = nI (dkM P (stg P aw (P 46)) (P 55)) ∧ eqD v v' := by
  obtain ⟨w0, g1, g2, g3, g4, g5⟩ := M_copies F hF (p := p) (q := 4) (by omega) (by omega) (by omega) v
  have h55 := hPg.2.1
  unfold pX7_docketGoes
  rw [show (272 : Int32) = nI (68 * 4) from rfl, g1, bd_s, vl_e, vl_e]
  refine lq1_up (n := P 55) (I := fun i w => (∃ Q, PgM 4 Q w ∧ DQ c jn P (dkV P (stg P aw (P 46)) i) Q) ∧ w.1 19 = dkF P (stg P aw (P 46)) i ∧ w.1 20 = nI (dkM P (stg P aw (P 46)) i) ∧ eqD v w) (Q := fun o => ∃ v' : St, o = some ((), v') ∧ (∃ Q, PgM 4 Q v' ∧ ∀ k, k < c → Q (24 + k) = dkV P (stg P aw (P 46)) (P 55) k) ∧ v'.1 19 = dkF P (stg P aw (P 46)) (P 55) ∧ v'.1 20 = nI (dkM P (stg P aw (P 46)) (P 55)) ∧ eqD v v') ?_ ?_ (P 55) 0 F _ (by omega) (by omega) ⟨⟨P, fun k hk => (g4 k hk).trans (hM k hk), hPg, fun k hk => rfl, fun k hk hv => ⟨rfl, rfl⟩, fun f hf => ⟨rfl, rfl⟩, fun j hj => ⟨rfl, rfl⟩, fun k hk => rfl⟩, rfl, rfl, fun k hk => ?_, fun k hk => g3 k hk, fun i hi => g5 i (by omega)⟩
  · rintro g w ⟨⟨Q, m1, m2⟩, h2, h3, h4⟩
    refine ⟨w, ?_, ⟨Q, m1, m2.2.1⟩, h2, h3, h4⟩
    have hMw := h4.pg (show p < 6 by omega) (by omega) hM
    unfold bX7_docketGoes_21
    rw [L55, nI_add, gd_i (by omega) (by omega), cl (by omega), hMw 55 (by omega), if_pos (yle (Nat.le_refl _) (by omega))]
  · rintro g i w hi ⟨⟨Q, m1, m2⟩, h2, h3, h4⟩
    have hMw := h4.pg (show p < 6 by omega) (by omega) hM
    obtain ⟨d1, d2⟩ := hPg.2.2.2.2.2.2 i hi
    have hv := dkV_bd hPg (stg P aw (P 46)) i (by omega) _ d1
    have eQ : w.2 0 (68 * 4 + (24 + P (56 + i))) = nI (dkV P (stg P aw (P 46)) i (P (56 + i))) := by rw [m1 _ (by omega), m2.2.1 _ d1]
    have head : ∀ r, (gd (inb (nI (68 * p) + 55) 408) (if w.2 0 (Int32.toNatClampNeg (nI (68 * p) + 55)) ≤ nI i then some ((), w) else r) : Option (Unit × St)) = r := fun r => by
      rw [L55, nI_add, gd_i (by omega) (by omega), cl (by omega), hMw 55 (by omega), if_neg (nle hi (by omega))]
    have c56 : w.2 0 (Int32.toNatClampNeg ((nI (68 * p) + 56) + nI i)) = nI (P (56 + i)) := by
      rw [L56, nI_add, nI_add, cl (by omega), show 68 * p + 56 + i = 68 * p + (56 + i) by omega, hMw _ (by omega)]
    have c62 : w.2 0 (Int32.toNatClampNeg ((nI (68 * p) + 62) + nI i)) = nI (P (62 + i)) := by
      rw [L62, nI_add, nI_add, cl (by omega), show 68 * p + 62 + i = 68 * p + (62 + i) by omega, hMw _ (by omega)]
    have b56 : inb ((nI (68 * p) + 56) + nI i) 408 = true := by
      rw [L56, nI_add, nI_add]; exact inb_nI (by omega) (by omega)
    have b62 : inb ((nI (68 * p) + 62) + nI i) 408 = true := by
      rw [L62, nI_add, nI_add]; exact inb_nI (by omega) (by omega)
    have b296 : inb ((296 : Int32) + nI (P (56 + i))) 408 = true := by
      rw [show (296 : Int32) = nI 296 from rfl, nI_add]; exact inb_nI (by omega) (by omega)
    have c296 : w.2 0 (Int32.toNatClampNeg ((296 : Int32) + nI (P (56 + i)))) = nI (dkV P (stg P aw (P 46)) i (P (56 + i))) := by
      rw [show (296 : Int32) = nI 296 from rfl, nI_add, cl (by omega), show 296 + P (56 + i) = 68 * 4 + (24 + P (56 + i)) by omega, eQ]
    by_cases q : dkV P (stg P aw (P 46)) i (P (56 + i)) = 0
    · obtain ⟨t, t1, t2, t3, t4, t5, t6⟩ := M_judges2 F hF (p := 4) w (by omega) hc4 hj3 m2.1 m1 (h4.env hE) d1 d2
      have es : stm Q aw mm 0 (Q 46) = stg P aw (P 46) := by
        rw [stm_a, m2.2.2.2.2.2 46 (by omega)]
        funext m
        exact stg_c (fun k hk => m2.2.2.2.2.2 k hk) aw _ m
      obtain ⟨l0, l1⟩ := m2.2.2.1 _ d1 q
      obtain ⟨k0, k2⟩ := m2.2.2.2.1 (2 * P (56 + i)) (by omega)
      obtain ⟨k1, k3⟩ := m2.2.2.2.1 (2 * P (56 + i) + 1) (by omega)
      obtain ⟨k4, k5⟩ := m2.2.2.2.2.1 (P (62 + i)) d2
      have eH : hP Q (stm Q aw mm 0 (Q 46)) (P (56 + i)) (P (62 + i)) = hP P (stg P aw (P 46)) (P (56 + i)) (P (62 + i)) := by
        rw [es]
        exact hP_c k0 k1 l0 l1 k2 k3 k4 k5
      rw [eH] at t1 t2 t3
      refine Or.inr ⟨stf t 20 (nI (dkM P (stg P aw (P 46)) i + ((hP P (stg P aw (P 46)) (P (56 + i)) (P (62 + i))).2.1 + 1))), ?_, ⟨_, t2, ?_⟩, ?_, ?_, fun k hk => ?_, fun k hk => ?_, fun k hk => ?_⟩
      · unfold bX7_docketGoes_21
        rw [head, b56, gd_true, c56, vl_e, b296, gd_true, c296, q]
        simp only [jn_e]
        rw [if_pos (show nI 0 = 0 from rfl), b62, gd_true, c62, show (272 : Int32) = nI (68 * 4) from rfl, t1, bd_s]
        simp only [vl_e, nI_s]
        rw [t4 20 (by omega), h3, t3, nI_s, nI_add]
      · rw [dkV, if_pos q]
        exact m2.s (i := i) hc4 hj3 hPg d1 d2
      · rw [stf_1, if_neg (by omega), t4 19 (by omega), h2, dkF, if_pos q]
      · rw [stf_1, if_pos rfl, dkM, if_pos q]
      · rw [stf_1, if_neg (by omega), t4 k (by omega), h4.1 k hk]
      · rw [stf_2, t5 k hk, h4.2.1 k hk]
      · rw [stf_2, t6 k (by omega), h4.2.2 k hk]
    · by_cases z : dkF P (stg P aw (P 46)) i = -4
      · refine Or.inr ⟨stf w 19 (nI i), ?_, ⟨Q, m1, ?_⟩, ?_, ?_, fun k hk => ?_, fun k hk => h4.2.1 k hk, fun k hk => h4.2.2 k hk⟩
        · unfold bX7_docketGoes_21
          rw [head, b56, gd_true, c56, vl_e, b296, gd_true, c296]
          simp only [jn_e, vl_e, nI_s]
          rw [if_neg (n0f q (by omega)), h2, if_pos z]
        · rw [dkV, if_neg q]; exact m2
        · rw [stf_1, if_pos rfl, dkF, if_neg q, if_pos z]
        · rw [stf_1, if_neg (by omega), dkM, if_neg q]; exact h3
        · rw [stf_1, if_neg (by omega)]; exact h4.1 k hk
      · refine Or.inr ⟨stf w 19 (dkF P (stg P aw (P 46)) i), ?_, ⟨Q, m1, ?_⟩, ?_, ?_, fun k hk => ?_, fun k hk => h4.2.1 k hk, fun k hk => h4.2.2 k hk⟩
        · unfold bX7_docketGoes_21
          rw [head, b56, gd_true, c56, vl_e, b296, gd_true, c296]
          simp only [jn_e, vl_e, nI_s]
          rw [if_neg (n0f q (by omega)), h2, if_neg z]
        · rw [dkV, if_neg q]; exact m2
        · rw [stf_1, if_pos rfl, dkF, if_neg q, if_neg z]
        · rw [stf_1, if_neg (by omega), dkM, if_neg q]; exact h3
        · rw [stf_1, if_neg (by omega)]; exact h4.1 k hk
  · rw [stf_1, if_neg (by omega), stf_1, if_neg (by omega), g2]
/-! runs, ahead -/
theorem st_runs (F : Nat) (hLF : 200 ≤ F) {u v : St} (h : RR u v) (x0 : Int32) : ∃ (r : Int32) (u' v' : St), pX6_runs F x0 u = some (r, u') ∧ pX7_runs F x0 v = some (r, v') ∧ RR u' v' := by
  obtain ⟨c, jn, P, ⟨c1, c2, c3, hX, c5, c6, c7⟩, i0, i1, hs, ht, hw, htn, hsh, hc⟩ := id h
  unfold pX6_runs pX7_runs
  rcases rng x0 (a0 := 0) (b0 := 4) (a1 := 0) (b1 := 4) 0 4 rfl rfl rfl rfl (by omega) (by omega) with ⟨d, d1, d2, rfl, e, e'⟩ | ⟨-, e, e'⟩
  · obtain ⟨u', g1, g2, g3, g4, g5⟩ := X_docket F (by omega) (aw := 0) u c1 c2 c3 hX (by omega)
    obtain ⟨v', m1, ⟨Q, m2, m3⟩, m4, m5, m6⟩ := M_docket F (by omega) (p := 0) v (Or.inl rfl) c1 c2 c3 c7 (menv0 hc)
    have hR : RR u' v' := h.eq g5.x m6.m
    have g1' : pX3_goByDocket F 0 u = some ((), u') := g1
    have m1' : pX7_docketGoes F 0 v = some ((), v') := m1
    rw [e, e', bd_s, bd_s, i10, i10, g1', m1', bd_s, bd_s]
    by_cases q3 : d = 3
    · rw [if_pos (show nI d = 3 by rw [q3]; rfl), if_pos (show (3 : Int32) ≤ nI d by rw [q3]; decide), if_pos (show nI d = 3 by rw [q3]; rfl), g3, m4]
      exact ⟨_, _, _, rfl, rfl, hR⟩
    · by_cases q4 : d = 4
      · rw [if_neg (show ¬ nI d = 3 by rw [q4]; decide), if_pos (show (3 : Int32) ≤ nI d by rw [q4]; decide), if_neg (show ¬ nI d = 3 by rw [q4]; decide), if_pos (show nI d = 4 by rw [q4]; rfl), g4, m5]
        exact ⟨_, _, _, rfl, rfl, hR⟩
      · have k := X_bits F (by omega) u' (arr := 59) (val := d + 1) (fun i => dkV P (stg P 0 (P 46)) (P 55) i) (show c ≤ 4 by omega) (by omega) (show 4 < 1000 by omega) (by omega) (fun i hi => ⟨by have := dkV_bd c3 (stg P 0 (P 46)) (P 55) (Nat.le_refl _) i hi; show dkV P (stg P 0 (P 46)) (P 55) i < 1000; omega, g2 i hi⟩)
        have km := M_won F (by omega) v' (p := 4) (val := d + 1) (by omega) c1 ((m6.1 0 (by omega)).trans c5) m2 (by omega) (fun i hi => by rw [m3 i hi]; have := dkV_bd c3 (stg P 0 (P 46)) (P 55) (Nat.le_refl _) i hi; omega)
        have y1 : u'.1 0 = nI c := (g5.1 0 (by omega)).trans hX.1
        rw [if_neg (show ¬ nI d = 3 from by rw [L3]; exact neI q3 (by omega) (by omega)), if_neg (show ¬ nI d = 4 from by rw [L4]; exact neI q4 (by omega) (by omega)), if_neg (show ¬ (3 : Int32) ≤ nI d from by rw [L3]; exact nle (by omega) (by omega)), nI_s, y1, k, bd_s, show (272 : Int32) = nI (68 * 4) from rfl, km, bd_s]
        refine ⟨_, _, _, rfl, ?_, hR⟩
        rw [bI_c c (fun i hi => by show decide (Q (24 + i) = d + 1) = decide (dkV P (stg P 0 (P 46)) (P 55) i = d + 1); rw [m3 i hi])]
  · rw [e, e', bd_s, bd_s, i00, i00]
    exact ⟨_, _, _, rfl, rfl, h⟩
theorem step_runs {u v : St} (h : RR u v) (x0 : Int32) : ∃ (r : Int32) (u' v' : St), pX6_runs LF x0 u = some (r, u') ∧ pX7_runs LF x0 v = some (r, v') ∧ RR u' v' := st_runs LF (by decide) h x0
theorem st_ahead (F : Nat) (hLF : 200 ≤ F) {u v : St} (h : RR u v) (x0 : Int32) : ∃ (r : Int32) (u' v' : St), pX6_ahead F x0 u = some (r, u') ∧ pX7_ahead F x0 v = some (r, v') ∧ RR u' v' := by
  obtain ⟨c, jn, P, ⟨c1, c2, c3, hX, c5, c6, c7⟩, i0, i1, hs, ht, hw, htn, hsh, hc⟩ := id h
  unfold pX6_ahead pX7_ahead
  rcases two_case x0 c1 hX.1 c5 with ⟨a, a1, rfl, e, e'⟩ | ⟨e, e'⟩
  · obtain ⟨u', g1, g2, g3, g4, g5⟩ := X_docket F (by omega) (aw := 0) u c1 c2 c3 hX (by omega)
    obtain ⟨v', m1, ⟨Q, m2, m3⟩, m4, m5, m6⟩ := M_docket F (by omega) (p := 0) v (Or.inl rfl) c1 c2 c3 c7 (menv0 hc)
    have g1' : pX3_goByDocket F 0 u = some ((), u') := g1
    have m1' : pX7_docketGoes F 0 v = some ((), v') := m1
    rw [e, e', bd_s, bd_s, i10, i10, g1', m1', bd_s, bd_s, gd_i (by omega) (by omega), cl (by omega), g2 a a1, show (296 : Int32) = nI 296 from rfl, nI_add, gd_i (by omega) (by omega), cl (by omega), show 296 + a = 68 * 4 + (24 + a) by omega, m2 _ (by omega), m3 a a1]
    exact ⟨_, _, _, rfl, rfl, h.eq g5.x m6.m⟩
  · rw [e, e', bd_s, bd_s, i00, i00]
    exact ⟨_, _, _, rfl, rfl, h⟩
theorem step_ahead {u v : St} (h : RR u v) (x0 : Int32) : ∃ (r : Int32) (u' v' : St), pX6_ahead LF x0 u = some (r, u') ∧ pX7_ahead LF x0 v = some (r, v') ∧ RR u' v' := st_ahead LF (by decide) h x0
