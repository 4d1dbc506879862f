/-! PURE: text: the next token, on both sides -/
/-- a token stands: t its kind (0: the end), from p to e, its value -/
def Tok (b : Nat → Nat) (n t p e vl : Nat) (u v : St) : Prop := t ≤ 3 ∧ p ≤ e ∧ e ≤ n ∧ (t ≠ 0 → p < e) ∧ vl < 100 ∧ u.1 20 = nI t ∧ u.1 21 = nI p ∧ u.1 22 = nI e ∧ (t = 2 → u.1 23 = nI vl) ∧ v.1 13 = nI t ∧ v.1 12 = nI p ∧ v.1 11 = nI e ∧ v.1 14 = nI vl ∧ v.1 9 = nI 0
/-- what reading a token leaves -/
def ftX (u u' : St) : Prop := (∀ k, (k < 20 ∨ 23 < k) → u'.1 k = u.1 k) ∧ u'.2 = u.2
def ftM (v v' : St) : Prop := (∀ k, (k < 11 ∨ 14 < k) → v'.1 k = v.1 k) ∧ v'.2 = v.2
/-- both have stopped: fault k at p -/
def Bad (k p : Nat) (u v : St) : Prop := 0 < k ∧ k < 10 ∧ p ≤ 160 ∧ (u.1 18 = nI k ∨ (k = 2 ∧ u.1 18 = nI 5)) ∧ u.1 21 = nI p ∧ v.1 9 = nI k ∧ v.1 10 = nI p
def fbX (u u' : St) : Prop := (∀ k, (k < 18 ∨ k = 19 ∨ 23 < k) → u'.1 k = u.1 k) ∧ u'.2 = u.2
def fbM (v v' : St) : Prop := (∀ k, (k < 9 ∨ 14 < k) → v'.1 k = v.1 k) ∧ v'.2 = v.2
theorem M_fails (F : Nat) {p : Nat} (v : St) (k : Int32) (h9 : v.1 9 = nI 0) (h12 : v.1 12 = nI p) : pX7_fails F k v = some ((), stf (stf v 9 k) 10 (nI p)) := by
  unfold pX7_fails
  rw [h9, if_pos (show nI 0 = 0 from rfl), vl_e, stf_1, if_neg (by omega), h12, vl_e]
theorem M_failsN (F : Nat) {q : Nat} (v : St) (k : Int32) (h9 : v.1 9 = nI q) (hq : 0 < q) (hq2 : q < 10) : pX7_fails F k v = some ((), v) := by
  unfold pX7_fails
  rw [h9, if_neg (n0f (by omega) (by omega))]
theorem sf_n (u : St) (k : Nat) (v : Int32) {j : Nat} (h : j ≠ k) : (stf u k v).1 j = u.1 j := by rw [stf_1, if_neg h]
theorem sf_k (u : St) (k : Nat) (v : Int32) : (stf u k v).1 k = v := by rw [stf_1, if_pos rfl]
theorem next2 (F : Nat) (hF : 200 ≤ F) {b : Nat → Nat} {n s : Nat} (u v : St) (hX : TpX b n u) (hM : TpM b n v) (hs : s ≤ n) (h22 : u.1 22 = nI s) (h11 : v.1 11 = nI s) (h9 : v.1 9 = nI 0) :
    (∃ t p e vl u' v', pX2_readsNext F u = some (1, u') ∧ pX7_step F v = some ((), v') ∧ Tok b n t p e vl u' v' ∧ s ≤ p ∧ ftX u u' ∧ ftM v v') ∨ (∃ p u' v', pX2_readsNext F u = some (0, u') ∧ pX7_step F v = some ((), v') ∧ Bad 1 p u' v' ∧ fbX u u' ∧ fbM v v') := by
  have n1 := hX.1
  obtain ⟨p, hp⟩ := Run_ex (fun i => decide (b i = 32)) n (n - s) s (by omega)
  have hp1 := hp.1
  have hp2 := hp.2.1
  obtain ⟨w, g1, g2, g3, g4⟩ := X_skip F hF (jX2_readsNext_38 F) u hX h22 hp
  obtain ⟨y, m1, m2, m3, m4⟩ := M_skip F hF (jX7_step_34 F) v hM h11 hp
  have hX0 : pX2_readsNext F u = jX2_readsNext_38 F w := by
    unfold pX2_readsNext
    rw [jn_e, g1]
  have hM0 : pX7_step F v = jX7_step_34 F y := by
    unfold pX7_step
    rw [h9, if_pos (show nI 0 ≤ 0 by decide), jn_e, m1]
  have w17 : w.1 17 = nI n := (g3 17 (by omega)).trans hX.2.1
  have y9 : y.1 9 = nI 0 := (m3 9 (by omega)).trans h9
  by_cases hpn : p = n
  · subst hpn
    refine Or.inl ⟨0, p, p, 0, stf (stf w 21 (nI p)) 20 0, stf (stf (stf y 12 (nI p)) 14 0) 13 0, ?_, ?_, ⟨by omega, Nat.le_refl _, Nat.le_refl _, fun z => absurd rfl z, by omega, by rw [stf_1, if_pos rfl]; rfl, by rw [stf_1, if_neg (by omega), stf_1, if_pos rfl], by rw [stf_1, if_neg (by omega), stf_1, if_neg (by omega)]; exact g2, fun z => by omega, by rw [stf_1, if_pos rfl]; rfl, by rw [stf_1, if_neg (by omega), stf_1, if_neg (by omega), stf_1, if_pos rfl], by rw [stf_1, if_neg (by omega), stf_1, if_neg (by omega), stf_1, if_neg (by omega)]; exact m2, by rw [stf_1, if_neg (by omega), stf_1, if_pos rfl]; rfl, by rw [stf_1, if_neg (by omega), stf_1, if_neg (by omega), stf_1, if_neg (by omega)]; exact y9⟩, hp1, ⟨fun k hk => by rw [stf_1, if_neg (by omega), stf_1, if_neg (by omega)]; exact g3 k (by omega), g4⟩, ⟨fun k hk => by rw [stf_1, if_neg (by omega), stf_1, if_neg (by omega), stf_1, if_neg (by omega)]; exact m3 k (by omega), m4⟩⟩
    · rw [hX0]
      unfold jX2_readsNext_38
      rw [g2, vl_e, sf_k, sf_n _ _ _ (by omega), w17, if_neg (nlt (Nat.le_refl _) (by omega)), vl_e]
    · rw [hM0]
      have hTy : TpM b p (stf y 12 (nI p)) := hM.fr (by rw [stf_1, if_neg (by omega)]; exact m3 7 (by omega)) (by rw [stf_2, m4]) (by rw [stf_2, m4]) (by rw [stf_2, m4])
      unfold jX7_step_34
      rw [m2, vl_e, stf_1, if_neg (by omega), m2, M_byteN F _ hTy (Nat.le_refl _) (by omega), bd_s, vl_e, if_pos rfl, vl_e]
  · have hpl : p < n := by omega
    obtain ⟨b1, b2⟩ := hX.2.2 p hpl
    have hcb := cls_bd (b p)
    -- the class has the kind
    obtain ⟨w2, hw2⟩ : ∃ w2, w2 = stf (stf (stf w 21 (nI p)) 20 (nI (cls (b p)))) 22 (nI (p + 1)) := ⟨_, rfl⟩
    have w2' : w2.2 = u.2 := by rw [hw2]; exact g4
    have w20 : w2.1 20 = nI (cls (b p)) := by rw [hw2, stf_1, if_neg (by omega), stf_1, if_pos rfl]
    have w21 : w2.1 21 = nI p := by rw [hw2, stf_1, if_neg (by omega), stf_1, if_neg (by omega), stf_1, if_pos rfl]
    have w22 : w2.1 22 = nI (p + 1) := by rw [hw2, stf_1, if_pos rfl]
    have w2o : ∀ k, (k < 20 ∨ 22 < k) → w2.1 k = u.1 k := fun k hk => by rw [hw2, stf_1, if_neg (by omega), stf_1, if_neg (by omega), stf_1, if_neg (by omega)]; exact g3 k (by omega)
    have hT2 : TpX b n w2 := ⟨hX.1, (w2o 17 (by omega)).trans hX.2.1, fun i hi => by rw [w2']; exact hX.2.2 i hi⟩
    have hXr : pX2_readsNext F u = lp0 (bX2_readsNext_90 F (jX2_readsNext_141 F)) F w2 := by
      rw [hX0]
      unfold jX2_readsNext_38
      rw [g2, vl_e, sf_k, sf_n _ _ _ (by omega), w17, if_pos (ylt hpl (by omega)), gd_i (by omega) (by omega), cl (by omega), stf_2, g4, b2, X_tok F (by omega), bd_s, vl_e, sf_n _ _ _ (by omega), sf_n _ _ _ (by omega), g2, vl_e, jn_e, nI_s, hw2]
    -- the reference has the byte
    obtain ⟨y2, hy2⟩ : ∃ y2, y2 = stf (stf y 12 (nI p)) 14 0 := ⟨_, rfl⟩
    have y2' : y2.2 = v.2 := by rw [hy2]; exact m4
    have y211 : y2.1 11 = nI p := by rw [hy2, stf_1, if_neg (by omega), stf_1, if_neg (by omega)]; exact m2
    have y212 : y2.1 12 = nI p := by rw [hy2, stf_1, if_neg (by omega), stf_1, if_pos rfl]
    have y214 : y2.1 14 = 0 := by rw [hy2, stf_1, if_pos rfl]
    have y29 : y2.1 9 = nI 0 := by rw [hy2, stf_1, if_neg (by omega), stf_1, if_neg (by omega)]; exact y9
    have y2o : ∀ k, (k < 11 ∨ 12 < k) → k ≠ 14 → y2.1 k = v.1 k := fun k hk hk2 => by rw [hy2, stf_1, if_neg (by omega), stf_1, if_neg (by omega)]; exact m3 k (by omega)
    have hTy2 : TpM b n y2 := hM.fr (y2o 7 (by omega) (by omega)) (by rw [y2']) (by rw [y2']) (by rw [y2'])
    have hMr : pX7_step F v = bd (pX7_in F (Int32.toInt64 (nI (b p))) 97 122 y2) (fun (r7 : Int32) (u6 : St) => if r7 = 0 then bd (pX7_in F (Int32.toInt64 (nI (b p))) 48 57 u6) (fun (r9 : Int32) (u8 : St) => if r9 = 0 then vl (stf u8 13 3) (fun (u10 : St) => vl (stf u10 11 ((u10.1 11) + 1)) (fun (u11 : St) => if nI (b p) = 59 then some ((), u11) else bd (pX7_fails F 1 u11) (fun (_ : Unit) (u12 : St) => some ((), u12)))) else jn (jX7_step_217 F) (fun (J217 : St → Option (Unit × St)) => (lp0 (bX7_step_140 F J217) F u8))) else jn (jX7_step_118 F) (fun (J118 : St → Option (Unit × St)) => (lp0 (bX7_step_84 F J118) F u6))) := by
      rw [hM0]
      have hTy : TpM b n (stf y 12 (nI p)) := hM.fr (by rw [stf_1, if_neg (by omega)]; exact m3 7 (by omega)) (by rw [stf_2, m4]) (by rw [stf_2, m4]) (by rw [stf_2, m4])
      unfold jX7_step_34
      rw [m2, vl_e, stf_1, if_neg (by omega), m2, M_byte F _ hTy hpl, bd_s, vl_e, if_neg (m4_lt (by omega)).2.1, ← hy2]
    rw [l97, l122, M_inb F (by omega) y2 (by omega) (by omega), bd_s] at hMr
    by_cases c1 : cls (b p) = 1
    · -- a name
      rw [b01_t ((cls1 _).mpr c1), i10, jn_e] at hMr
      obtain ⟨e, he⟩ := Run_ex (fun i => decide (cls (b i) = 1)) n (n - (p + 1)) (p + 1) (by omega)
      have he1 := he.1
      have he2 := he.2.1
      have he' : Run (fun i => decide (cls (b i) = 1)) n p e := ⟨by omega, he.2.1, fun i h1 h2 => by
        by_cases z : i = p
        · rw [z]; exact decide_eq_true c1
        · exact he.2.2.1 i (by omega) h2, he.2.2.2⟩
      obtain ⟨w3, k1, k2, k3, k4⟩ := X_runT F hF (t := 1) (jX2_readsNext_141 F) w2 hT2 w22 (by rw [w20, c1]) (by omega) (by omega) he
      obtain ⟨y3, o1, o2, o3, o4⟩ := M_letters F hF (jX7_step_118 F) y2 hTy2 y211 he'
      have w320 : w3.1 20 = nI 1 := by rw [k3 20 (by omega), w20, c1]
      refine Or.inl ⟨1, p, e, 0, stf w3 23 (-4), stf y3 13 1, ?_, ?_, ⟨by omega, by omega, he2, fun _ => by omega, by omega, by rw [stf_1, if_neg (by omega)]; exact w320, by rw [stf_1, if_neg (by omega), k3 21 (by omega)]; exact w21, by rw [stf_1, if_neg (by omega)]; exact k2, fun z => by omega, by rw [stf_1, if_pos rfl]; rfl, by rw [stf_1, if_neg (by omega), o3 12 (by omega)]; exact y212, by rw [stf_1, if_neg (by omega)]; exact o2, by rw [stf_1, if_neg (by omega), o3 14 (by omega)]; exact y214, by rw [stf_1, if_neg (by omega), o3 9 (by omega)]; exact y29⟩, hp1, ⟨fun k hk => by rw [stf_1, if_neg (by omega), k3 k (by omega)]; exact w2o k (by omega), by rw [stf_2, k4, w2']⟩, ⟨fun k hk => by rw [stf_1, if_neg (by omega), o3 k (by omega)]; exact y2o k (by omega) (by omega), by rw [stf_2, o4, y2']⟩⟩
      · rw [hXr, k1]
        unfold jX2_readsNext_141
        simp only [jn_e, vl_e, w320]
        rw [if_neg (show ¬ nI 1 = 4 by decide), if_neg (show ¬ nI 1 = 2 by decide), if_neg (show ¬ nI 1 = 2 by decide)]
      · rw [hMr, o1]
        unfold jX7_step_118
        rw [vl_e]
    · rw [b01_f (fun z => c1 ((cls1 _).mp z)), i00, l48, l57, M_inb F (by omega) y2 (by omega) (by omega), bd_s] at hMr
      by_cases c2 : cls (b p) = 2
      · -- a number
        rw [b01_t ((cls2' _).mpr c2), i10, jn_e] at hMr
        obtain ⟨e, he⟩ := Run_ex (fun i => decide (cls (b i) = 2)) n (n - (p + 1)) (p + 1) (by omega)
        have he1 := he.1
        have he2 := he.2.1
        have he' : Run (fun i => decide (cls (b i) = 2)) n p e := ⟨by omega, he.2.1, fun i h1 h2 => by
          by_cases z : i = p
          · rw [z]; exact decide_eq_true c2
          · exact he.2.2.1 i (by omega) h2, he.2.2.2⟩
        have hdig : ∀ i, p ≤ i → i < e → cls (b i) = 2 := fun i h1 h2 => of_decide_eq_true (he'.2.2.1 i h1 h2)
        obtain ⟨w3, k1, k2, k3, k4⟩ := X_runT F hF (t := 2) (jX2_readsNext_141 F) w2 hT2 w22 (by rw [w20, c2]) (by omega) (by omega) he
        obtain ⟨y3, o1, o2, o5, o3, o4⟩ := M_digits F hF (jX7_step_217 F) y2 hTy2 y211 y212 y214 he'
        have w320 : w3.1 20 = nI 2 := by rw [k3 20 (by omega), w20, c2]
        have w321 : w3.1 21 = nI p := by rw [k3 21 (by omega)]; exact w21
        have y312 : y3.1 12 = nI p := (o3 12 (by omega) (by omega)).trans y212
        have y39 : y3.1 9 = nI 0 := (o3 9 (by omega) (by omega)).trans y29
        by_cases hlen : e ≤ p + 2
        · have ev : mn2 (e - p) = e - p := by unfold mn2; split <;> omega
          have hT3 : TpX b n w3 := ⟨hX.1, (k3 17 (by omega)).trans hT2.2.1, fun i hi => by rw [k4]; exact hT2.2.2 i hi⟩
          have hf := X_figs F hF w3 hT3 w321 k2 (by omega) he2 hdig hlen
          have hfl := fig_lt (b := b) (p := p) (e - p) (by omega) (fun i h1 h2 => hdig i h1 (by omega))
          rw [ev] at o5
          refine Or.inl ⟨2, p, e, fig b p (e - p), stf w3 23 (nI (fig b p (e - p))), stf y3 13 2, ?_, ?_, ⟨by omega, by omega, he2, fun _ => by omega, hfl, by rw [stf_1, if_neg (by omega)]; exact w320, by rw [stf_1, if_neg (by omega)]; exact w321, by rw [stf_1, if_neg (by omega)]; exact k2, fun _ => by rw [stf_1, if_pos rfl], by rw [stf_1, if_pos rfl]; rfl, by rw [stf_1, if_neg (by omega)]; exact y312, by rw [stf_1, if_neg (by omega)]; exact o2, by rw [stf_1, if_neg (by omega)]; exact o5, by rw [stf_1, if_neg (by omega)]; exact y39⟩, hp1, ⟨fun k hk => by rw [stf_1, if_neg (by omega), k3 k (by omega)]; exact w2o k (by omega), by rw [stf_2, k4, w2']⟩, ⟨fun k hk => by rw [stf_1, if_neg (by omega), o3 k (by omega) (by omega)]; exact y2o k (by omega) (by omega), by rw [stf_2, o4, y2']⟩⟩
          · rw [hXr, k1]
            unfold jX2_readsNext_141
            simp only [jn_e, vl_e, w320]
            rw [if_neg (show ¬ nI 2 = 4 by decide), if_pos (show nI 2 = 2 from rfl), k2, w321, subI (by omega), if_pos (show nI (e - p) ≤ 2 from by rw [L2]; exact yle (by omega) (by omega)), if_pos (show nI 2 = 2 from rfl), hf, bd_s]
          · rw [hMr, o1]
            unfold jX7_step_217
            rw [vl_e, sf_n _ _ _ (by omega), sf_n _ _ _ (by omega), o2, y312, subI (by omega), if_pos (show nI (e - p) ≤ 2 from by rw [L2]; exact yle (by omega) (by omega))]
        · refine Or.inr ⟨p, stf w3 18 1, stf (stf (stf y3 13 2) 9 1) 10 (nI p), ?_, ?_, ⟨by omega, by omega, by omega, Or.inl (by rw [stf_1, if_pos rfl]; rfl), by rw [stf_1, if_neg (by omega)]; exact w321, by rw [stf_1, if_neg (by omega), stf_1, if_pos rfl]; rfl, by rw [stf_1, if_pos rfl]⟩, ⟨fun k hk => by rw [stf_1, if_neg (by omega), k3 k (by omega)]; exact w2o k (by omega), by rw [stf_2, k4, w2']⟩, ⟨fun k hk => by rw [stf_1, if_neg (by omega), stf_1, if_neg (by omega), stf_1, if_neg (by omega), o3 k (by omega) (by omega)]; exact y2o k (by omega) (by omega), by rw [stf_2, stf_2, stf_2, o4, y2']⟩⟩
          · rw [hXr, k1]
            unfold jX2_readsNext_141 pX2_fails
            simp only [jn_e, vl_e, w320, bd_s]
            rw [if_neg (show ¬ nI 2 = 4 by decide), if_pos (show nI 2 = 2 from rfl), k2, w321, subI (by omega), if_neg (show ¬ nI (e - p) ≤ 2 from by rw [L2]; exact nle (by omega) (by omega)), z01_0, gd_true]
          · rw [hMr, o1]
            unfold jX7_step_217
            rw [vl_e, sf_n _ _ _ (by omega), sf_n _ _ _ (by omega), o2, y312, subI (by omega), if_neg (show ¬ nI (e - p) ≤ 2 from by rw [L2]; exact nle (by omega) (by omega)), M_fails F (p := p) _ 1 (by rw [stf_1, if_neg (by omega)]; exact y39) (by rw [stf_1, if_neg (by omega)]; exact y312), bd_s]
      · rw [b01_f (fun z => c2 ((cls2' _).mp z)), i00, vl_e, stf_1, if_neg (by omega), y211, vl_e, nI_s] at hMr
        by_cases c3 : cls (b p) = 3
        · -- a sign
          have hb59 : b p = 59 := by
            unfold cls at c3
            split at c3
            · omega
            · split at c3
              · omega
              · split at c3
                · assumption
                · omega
          have hJ : lp0 (bX2_readsNext_90 F (jX2_readsNext_141 F)) F w2 = jX2_readsNext_141 F w2 := by
            obtain ⟨f, hf⟩ : ∃ f, F = f + 1 := ⟨F - 1, by omega⟩
            generalize hg : lp0 (bX2_readsNext_90 F (jX2_readsNext_141 F)) F = G
            have hg' : G = lp0 (bX2_readsNext_90 F (jX2_readsNext_141 F)) (f + 1) := by rw [← hg]; exact congrArg _ hf
            rw [hg', lp0_s]
            unfold bX2_readsNext_90
            rw [w20, c3]
            by_cases z : w2.1 17 ≤ w2.1 22
            · rw [if_pos z]
            · rw [if_neg z, if_pos (show nI 3 = 3 from rfl)]
          refine Or.inl ⟨3, p, p + 1, 0, stf w2 23 (-4), stf (stf y2 13 3) 11 (nI (p + 1)), ?_, ?_, ⟨by omega, by omega, by omega, fun _ => by omega, by omega, by rw [stf_1, if_neg (by omega), w20, c3], by rw [stf_1, if_neg (by omega)]; exact w21, by rw [stf_1, if_neg (by omega)]; exact w22, fun z => by omega, by rw [stf_1, if_neg (by omega), stf_1, if_pos rfl]; rfl, by rw [stf_1, if_neg (by omega), stf_1, if_neg (by omega)]; exact y212, by rw [stf_1, if_pos rfl], by rw [stf_1, if_neg (by omega), stf_1, if_neg (by omega)]; exact y214, by rw [stf_1, if_neg (by omega), stf_1, if_neg (by omega)]; exact y29⟩, hp1, ⟨fun k hk => by rw [stf_1, if_neg (by omega)]; exact w2o k (by omega), by rw [stf_2, w2']⟩, ⟨fun k hk => by rw [stf_1, if_neg (by omega), stf_1, if_neg (by omega)]; exact y2o k (by omega) (by omega), by rw [stf_2, stf_2, y2']⟩⟩
          · rw [hXr, hJ]
            unfold jX2_readsNext_141
            simp only [jn_e, vl_e, w20, c3]
            rw [if_neg (show ¬ nI 3 = 4 by decide), if_neg (show ¬ nI 3 = 2 by decide), if_neg (show ¬ nI 3 = 2 by decide)]
          · rw [hMr, hb59, if_pos (show nI 59 = 59 from rfl)]
        · -- nothing
          have c4 : cls (b p) = 4 := by omega
          have hb59 : b p ≠ 59 := by
            intro z
            rw [z] at c3
            exact c3 (by decide)
          obtain ⟨e, he⟩ := Run_ex (fun i => decide (cls (b i) = 4)) n (n - (p + 1)) (p + 1) (by omega)
          obtain ⟨w3, k1, k2, k3, k4⟩ := X_runT F hF (t := 4) (jX2_readsNext_141 F) w2 hT2 w22 (by rw [w20, c4]) (by omega) (by omega) he
          have w320 : w3.1 20 = nI 4 := by rw [k3 20 (by omega), w20, c4]
          have w321 : w3.1 21 = nI p := by rw [k3 21 (by omega)]; exact w21
          refine Or.inr ⟨p, stf w3 18 1, stf (stf (stf (stf y2 13 3) 11 (nI (p + 1))) 9 1) 10 (nI p), ?_, ?_, ⟨by omega, by omega, by omega, Or.inl (by rw [stf_1, if_pos rfl]; rfl), by rw [stf_1, if_neg (by omega)]; exact w321, by rw [stf_1, if_neg (by omega), stf_1, if_pos rfl]; rfl, by rw [stf_1, if_pos rfl]⟩, ⟨fun k hk => by rw [stf_1, if_neg (by omega), k3 k (by omega)]; exact w2o k (by omega), by rw [stf_2, k4, w2']⟩, ⟨fun k hk => by rw [stf_1, if_neg (by omega), stf_1, if_neg (by omega), stf_1, if_neg (by omega), stf_1, if_neg (by omega)]; exact y2o k (by omega) (by omega), by rw [stf_2, stf_2, stf_2, stf_2, y2']⟩⟩
          · rw [hXr, k1]
            unfold jX2_readsNext_141 pX2_fails
            simp only [jn_e, vl_e, w320, bd_s]
            rw [if_pos (show nI 4 = 4 from rfl), z01_0, gd_true]
          · rw [hMr, if_neg (show ¬ nI (b p) = 59 from by rw [show (59 : Int32) = nI 59 from rfl]; exact neI hb59 (by omega) (by omega)), M_fails F (p := p) _ 1 (by rw [stf_1, if_neg (by omega), stf_1, if_neg (by omega)]; exact y29) (by rw [stf_1, if_neg (by omega), stf_1, if_neg (by omega)]; exact y212), bd_s]
