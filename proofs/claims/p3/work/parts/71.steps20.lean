/-! PURE: draughts that come -/
theorem sh_b0 : ∀ aw, aw < 16 → ∀ i, i < 4 → (((nI aw >>> (nI i &&& 31)) &&& 1) = 0 ↔ aw.testBit i = false) := by decide +kernel
theorem sh_b1 : ∀ aw, aw < 16 → ∀ i, i < 4 → (((nI aw >>> (nI i &&& 31)) &&& 1) = 1 ↔ aw.testBit i = true) := by decide +kernel
theorem shl1 : ∀ n, n < 5 → (1 : Int32) <<< (nI n &&& 31) = nI (2 ^ n) := by decide +kernel
def wgN (v aw : Nat) : Nat → Nat
  | 0 => 1
  | n + 1 => wgN v aw n * (if aw.testBit n = true then v else 10 - v)
theorem wgN_le {v : Nat} (hv : v ≤ 10) (aw : Nat) : ∀ n, wgN v aw n ≤ 10 ^ n
  | 0 => Nat.le_refl _
  | n + 1 => by
    unfold wgN
    rw [Nat.pow_succ]
    exact Nat.mul_le_mul (wgN_le hv aw n) (by split <;> omega)
theorem p10_le {n : Nat} (h : n ≤ 4) : 10 ^ n ≤ 10000 := by
  have q : n = 0 ∨ n = 1 ∨ n = 2 ∨ n = 3 ∨ n = 4 := by omega
  rcases q with rfl | rfl | rfl | rfl | rfl <;> decide
theorem p2_le {n : Nat} (h : n ≤ 4) : 2 ^ n ≤ 16 := by
  have q : n = 0 ∨ n = 1 ∨ n = 2 ∨ n = 3 ∨ n = 4 := by omega
  rcases q with rfl | rfl | rfl | rfl | rfl <;> decide
theorem p10_0 (n : Nat) : 0 < 10 ^ n := Nat.pow_pos (by omega)
theorem n2l {n : Nat} (h : n < 1000) : Int32.toInt64 (nI n) = lN n := nI_l (by omega)
theorem l1 : (1 : Int64) = lN 1 := by decide +kernel
theorem l0 : (0 : Int64) = lN 0 := by decide +kernel
theorem l10 : (10 : Int64) = lN 10 := by decide +kernel
theorem X_weight (F : Nat) (hF : 80 ≤ F) (u : St) {n v aw : Nat} (hn : n ≤ 4) (h2 : u.1 2 = nI n) (hv : v ≤ 10) (ha : aw < 16) : pX6_weightOf F (nI v) (nI aw) u = some (lN (wgN v aw n), u) := by
  unfold pX6_weightOf
  refine lq2_up (n := n) (I := fun i x w => x = lN (wgN v aw i) ∧ w = u) (Q := fun o => o = some (lN (wgN v aw n), u)) ?_ ?_ n 0 F 1 u (by omega) (by omega) ⟨l1, rfl⟩
  · rintro g x w ⟨rfl, rfl⟩
    unfold bX6_weightOf_5
    rw [h2, if_pos (yle (Nat.le_refl _) (by omega))]
  · rintro g i x w hi ⟨rfl, rfl⟩
    refine Or.inr ⟨lN (wgN v aw (i + 1)), w, ?_, rfl, rfl⟩
    unfold bX6_weightOf_5
    rw [h2, if_neg (nle hi (by omega)), nI_s, show (10 : Int32) - nI v = nI (10 - v) from by rw [L10, subI hv], n2l (by omega), n2l (by omega)]
    simp only [jn_e, vl_e, lN_mul]
    rw [wgN]
    by_cases z : aw.testBit i = false
    · rw [if_pos ((sh_b0 aw ha i (by omega)).mpr z), if_neg (by rw [z]; decide)]
    · rw [if_neg (fun q => z ((sh_b0 aw ha i (by omega)).mp q)), if_pos (by simpa using z)]
theorem X_tenths (F : Nat) (hF : 80 ≤ F) (u : St) {n : Nat} (hn : n ≤ 4) (h2 : u.1 2 = nI n) : pX6_tenths F u = some (lN (10 ^ n), u) := by
  unfold pX6_tenths
  refine lq2_up (n := n) (I := fun i x w => x = lN (10 ^ i) ∧ w = u) (Q := fun o => o = some (lN (10 ^ n), u)) ?_ ?_ n 0 F 1 u (by omega) (by omega) ⟨l1, rfl⟩
  · rintro g x w ⟨rfl, rfl⟩
    unfold bX6_tenths_4
    rw [h2, if_pos (yle (Nat.le_refl _) (by omega))]
  · rintro g i x w hi ⟨rfl, rfl⟩
    refine Or.inr ⟨lN (10 ^ (i + 1)), w, ?_, rfl, rfl⟩
    unfold bX6_tenths_4
    rw [h2, if_neg (nle hi (by omega)), nI_s, l10, lN_mul, vl_e, Nat.pow_succ]
/-! lowest terms -/
theorem lg_z : lg_cmp (lN 0) 0 = 0 := by decide +kernel
theorem lg_nz {y : Nat} (h : 0 < y) (hy : y < 2 ^ 40) : ¬ lg_cmp (lN y) 0 = 0 := by
  unfold lg_cmp
  rw [l0, if_pos (show lN y > lN 0 from (pk_lLT (a := 0) (b := y) (by omega) (by omega)).mpr h)]
  decide
theorem nzl_l {y : Nat} (h : 0 < y) (hy : y < 2 ^ 40) : nzl (lN y) = true := by
  have e : ¬ lN y = 0 := fun z => by
    rw [l0] at z
    have := (pk_lEQ (a := y) (b := 0) (by omega) (by omega)).mp z
    omega
  unfold nzl
  simp [e]
theorem lrm_l {x y : Nat} (h : 0 < y) (hx : x < 2 ^ 40) (hy : y < 2 ^ 40) : lrm (lN x) (lN y) = lN (x % y) := pk_lRem (by omega) h (by omega)
theorem gcd_st (x y : Nat) : Nat.gcd x y = Nat.gcd y (x % y) := by
  rw [Nat.gcd_comm x y, Nat.gcd_rec y x, Nat.gcd_comm]
theorem X_lowL (F : Nat) (J : Int64 → St → Option (Int64 × St)) (u : St) : ∀ (n x y i f : Nat), y < 2 ^ n → i + (2 * n + 1) ≤ 100 → 2 * n + 1 < f → x < 2 ^ 40 → y < 2 ^ 40 → lq3 (bX6_inLowestTerms_9 F J) f (lN x) (lN y) (nI i) u = J (lN (Nat.gcd x y)) u
  | n, x, y, i, 0, h1, h2, h3, h4, h5 => by omega
  | 0, x, y, i, f + 1, h1, h2, h3, h4, h5 => by
    have e : y = 0 := by simp at h1; exact h1
    subst e
    rw [lq3_s]
    unfold bX6_inLowestTerms_9
    rw [if_neg (show ¬ (100 : Int32) ≤ nI i from by rw [L100]; exact nle (by omega) (by omega)), if_pos lg_z, Nat.gcd_zero_right]
  | n + 1, x, y, i, 1, h1, h2, h3, h4, h5 => by omega
  | n + 1, x, y, i, f + 1 + 1, h1, h2, h3, h4, h5 => by
    rw [lq3_s]
    by_cases q : y = 0
    · subst q
      unfold bX6_inLowestTerms_9
      rw [if_neg (show ¬ (100 : Int32) ≤ nI i from by rw [L100]; exact nle (by omega) (by omega)), if_pos lg_z, Nat.gcd_zero_right]
    · have r1 : x % y < y := Nat.mod_lt _ (by omega)
      have step : ∀ (s : Int64 → Int64 → Int32 → St → Option (Int64 × St)) (a b k : Nat), 0 < b → a < 2 ^ 40 → b < 2 ^ 40 → k < 100 → bX6_inLowestTerms_9 F J s (lN a) (lN b) (nI k) u = s (lN b) (lN (a % b)) (nI (k + 1)) u := fun s a b k hb ha hb' hk => by
        unfold bX6_inLowestTerms_9
        rw [if_neg (show ¬ (100 : Int32) ≤ nI k from by rw [L100]; exact nle hk (by omega)), if_neg (lg_nz hb hb'), nzl_l hb hb', gd_true, lrm_l hb ha hb', vl_e, nI_s]
      rw [step _ x y i (by omega) h4 h5 (by omega), lq3_s, gcd_st]
      by_cases z : x % y = 0
      · rw [z, Nat.gcd_zero_right]
        unfold bX6_inLowestTerms_9
        rw [if_neg (show ¬ (100 : Int32) ≤ nI (i + 1) from by rw [L100]; exact nle (by omega) (by omega)), if_pos lg_z]
      · have r2 : y % (x % y) < x % y := Nat.mod_lt _ (by omega)
        have r3 : y % (x % y) + x % y ≤ y := by
          have := Nat.div_add_mod y (x % y)
          have h6 : 1 ≤ y / (x % y) := Nat.div_pos (by omega) (by omega)
          have h7 : x % y * 1 ≤ x % y * (y / (x % y)) := Nat.mul_le_mul (Nat.le_refl _) h6
          omega
        rw [step _ y (x % y) (i + 1) (by omega) h5 (by omega) (by omega), gcd_st]
        exact X_lowL F J u n (x % y) (y % (x % y)) (i + 1 + 1) f (by rw [Nat.pow_succ] at h1; omega) (by omega) (by omega) (by omega) (by omega)
theorem M_lowL (F : Nat) (J : Int64 → St → Option (Int64 × St)) (u : St) : ∀ (n x y f : Nat), y < 2 ^ n → 2 * n + 1 < f → x < 2 ^ 40 → y < 2 ^ 40 → lq2 (bX7_lowest_6 F J) f (lN x) (lN y) u = J (lN (Nat.gcd x y)) u
  | n, x, y, 0, h1, h3, h4, h5 => by omega
  | 0, x, y, f + 1, h1, h3, h4, h5 => by
    have e : y = 0 := by simp at h1; exact h1
    subst e
    rw [lq2_s]
    unfold bX7_lowest_6
    rw [if_pos lg_z, Nat.gcd_zero_right]
  | n + 1, x, y, 1, h1, h3, h4, h5 => by omega
  | n + 1, x, y, f + 1 + 1, h1, h3, h4, h5 => by
    rw [lq2_s]
    by_cases q : y = 0
    · subst q
      unfold bX7_lowest_6
      rw [if_pos lg_z, Nat.gcd_zero_right]
    · have r1 : x % y < y := Nat.mod_lt _ (by omega)
      have step : ∀ (s : Int64 → Int64 → St → Option (Int64 × St)) (a b : Nat), 0 < b → a < 2 ^ 40 → b < 2 ^ 40 → bX7_lowest_6 F J s (lN a) (lN b) u = s (lN b) (lN (a % b)) u := fun s a b hb ha hb' => by
        unfold bX7_lowest_6
        rw [if_neg (lg_nz hb hb'), nzl_l hb hb', gd_true, lrm_l hb ha hb', vl_e]
      rw [step _ x y (by omega) h4 h5, lq2_s, gcd_st]
      by_cases z : x % y = 0
      · rw [z, Nat.gcd_zero_right]
        unfold bX7_lowest_6
        rw [if_pos lg_z]
      · have r2 : y % (x % y) < x % y := Nat.mod_lt _ (by omega)
        have r3 : y % (x % y) + x % y ≤ y := by
          have := Nat.div_add_mod y (x % y)
          have h6 : 1 ≤ y / (x % y) := Nat.div_pos (by omega) (by omega)
          have h7 : x % y * 1 ≤ x % y * (y / (x % y)) := Nat.mul_le_mul (Nat.le_refl _) h6
          omega
        rw [step _ y (x % y) (by omega) h5 (by omega), gcd_st]
        exact M_lowL F J u n (x % y) (y % (x % y)) f (by rw [Nat.pow_succ] at h1; omega) (by omega) (by omega) (by omega)
def lowR (a b d : Nat) : Int64 := if d = 0 then lN a / lN (Nat.gcd a b) else lN b / lN (Nat.gcd a b)
theorem X_low (F : Nat) (hF : 80 ≤ F) (u : St) {a b d : Nat} (ha : a < 2 ^ 20) (h0 : 0 < b) (hb : b < 2 ^ 20) (hd : d < 2) : pX6_inLowestTerms F (lN a) (lN b) (nI d) u = some (lowR a b d, u) := by
  have hg : 0 < Nat.gcd b a := Nat.gcd_pos_of_pos_left _ h0
  have hg2 : Nat.gcd b a ≤ b := Nat.gcd_le_left _ h0
  unfold pX6_inLowestTerms
  rw [jn_e, show (0 : Int32) = nI 0 from rfl, X_lowL F (jX6_inLowestTerms_44 F (lN a) (lN b) (nI d)) u 20 b a 0 F ha (by omega) (by omega) (by omega) (by omega)]
  unfold jX6_inLowestTerms_44 lowR
  rw [if_pos (show 0 < lg_cmp (lN (Nat.gcd b a)) 0 from (lg_gt _ _).mpr (by rw [pk_lT (by omega), show (0 : Int64).toInt = 0 from by decide]; omega)), nzl_l hg (by omega), gd_true, gd_true, Nat.gcd_comm b a]
  by_cases q : d = 0
  · rw [if_pos (by rw [q]; rfl), if_pos q]
  · rw [if_neg (n0f q (by omega)), if_neg q]
theorem M_low (F : Nat) (hF : 80 ≤ F) (u : St) {a b d : Nat} (ha : a < 2 ^ 20) (h0 : 0 < b) (hb : b < 2 ^ 20) (hd : d < 2) : pX7_lowest F (lN a) (lN b) (nI d) u = some (lowR a b d, u) := by
  have hg : 0 < Nat.gcd a b := Nat.gcd_pos_of_pos_right _ h0
  have hg2 : Nat.gcd a b ≤ b := Nat.gcd_le_right _ h0
  unfold pX7_lowest
  rw [jn_e, M_lowL F (jX7_lowest_31 F (lN a) (lN b) (nI d)) u 20 a b F hb (by omega) (by omega) (by omega)]
  unfold jX7_lowest_31 lowR
  rw [nzl_l hg (by omega), gd_true, gd_true]
  by_cases q : d = 0
  · rw [if_pos (by rw [q]; rfl), if_pos q]
  · rw [if_neg (n0f q (by omega)), if_neg q]
/-! the sums -/
def awN (v n : Nat) (val : Nat → Nat) : Nat → Nat
  | 0 => 0
  | aw + 1 => awN v n val aw + wgN v aw n * val aw
theorem awN_lt {v n : Nat} (hv : v ≤ 10) (hn : n ≤ 4) {val : Nat → Nat} (hval : ∀ aw, val aw ≤ 4) : ∀ k, awN v n val k ≤ k * 40000
  | 0 => by
    unfold awN
    omega
  | k + 1 => by
    have h1 := awN_lt hv hn hval k
    have h2 := wgN_le hv k n
    have h3 := p10_le hn
    have h4 : wgN v k n * val k ≤ 10000 * 4 := Nat.mul_le_mul (by omega) (hval k)
    unfold awN
    omega
def eqB (v v' : St) : Prop := (∀ k, k ≠ 15 → (k < 18 ∨ 20 < k) → v'.1 k = v.1 k) ∧ (∀ k, k ≠ 0 → v'.2 k = v.2 k) ∧ ∀ i, (i < 272 ∨ 408 ≤ i) → v'.2 0 i = v.2 0 i
theorem M_away (F : Nat) (hF : 200 ≤ F) {c jn vv d : Nat} {P : Nat → Nat} {val : Nat → Nat} (v : St) (p2 p3 p4 : Int32) (hPg : PgOK c jn P) (hM : PgM 0 P v) (hE : MEnv 0 0 0 v) (h0 : v.1 0 = nI c) (hvv : vv ≤ 10) (hd : d < 2) (hval4 : ∀ aw, val aw ≤ 4) (hval : ∀ aw w (J : Int32 → St → Option (Int64 × St)), aw < 16 → PgM 0 P w → MEnv aw 0 0 w → w.1 0 = nI c → ∃ w', (if p2 = -4 then bd (pX7_wonThen F 0 p3 w) (fun (r21 : Int32) (u20 : St) => J r21 u20) else bd (pX7_isWonBy F 0 p2 p3 p4 w) (fun (r19 : Int32) (u18 : St) => if r19 = 0 then J 0 u18 else J 1 u18)) = J (nI (val aw)) w' ∧ eqE w w') : ∃ v', pX7_byAway F (nI vv) p2 p3 p4 (nI d) v = some (lowR (awN vv (P 46) val (2 ^ P 46)) (10 ^ P 46) d, v') ∧ eqM v v' := by
  have h46 := hPg.1
  have e46 : v.2 0 46 = nI (P 46) := hM.g (by omega)
  have t46 : Int32.toNatClampNeg 46 = 46 := by decide +kernel
  have g46 : inb 46 408 = true := by decide +kernel
  obtain ⟨e1, e2, -, e4, -, -, e7⟩ := hE
  have h16 := p2_le h46
  -- tenths
  have ten : ∀ J : Int64 → St → Option (Int64 × St), lq2 (bX7_byAway_9 F J) F 1 0 v = J (lN (10 ^ P 46)) v := fun J => by
    refine lq2_up (n := P 46) (I := fun i x w => x = lN (10 ^ i) ∧ w = v) (Q := fun o => o = J (lN (10 ^ P 46)) v) ?_ ?_ (P 46) 0 F 1 v (by omega) (by omega) ⟨l1, rfl⟩
    · rintro g x w ⟨rfl, rfl⟩
      unfold bX7_byAway_9
      rw [g46, gd_true, t46, e46, if_pos (yle (Nat.le_refl _) (by omega))]
    · rintro g i x w hi ⟨rfl, rfl⟩
      refine Or.inr ⟨lN (10 ^ (i + 1)), w, ?_, rfl, rfl⟩
      unfold bX7_byAway_9
      rw [g46, gd_true, t46, e46, if_neg (nle hi (by omega)), nI_s, l10, lN_mul, vl_e, Nat.pow_succ]
  -- a weight
  have wgt : ∀ (J : Int64 → St → Option (Int64 × St)) (w : St) (aw : Nat), aw < 16 → w.2 0 46 = nI (P 46) → lq2 (bX7_byAway_58 F (nI vv) (nI aw) J) F 1 0 w = J (lN (wgN vv aw (P 46))) w := fun J w aw ha hw => by
    refine lq2_up (n := P 46) (I := fun i x y => x = lN (wgN vv aw i) ∧ y = w) (Q := fun o => o = J (lN (wgN vv aw (P 46))) w) ?_ ?_ (P 46) 0 F 1 w (by omega) (by omega) ⟨l1, rfl⟩
    · rintro g x y ⟨rfl, rfl⟩
      unfold bX7_byAway_58
      rw [g46, gd_true, t46, hw, if_pos (yle (Nat.le_refl _) (by omega))]
    · rintro g i x y hi ⟨rfl, rfl⟩
      refine Or.inr ⟨lN (wgN vv aw (i + 1)), y, ?_, rfl, rfl⟩
      unfold bX7_byAway_58
      rw [g46, gd_true, t46, hw, if_neg (nle hi (by omega)), nI_s, show (10 : Int32) - nI vv = nI (10 - vv) from by rw [L10, subI hvv], n2l (by omega), n2l (by omega)]
      simp only [jn_e, vl_e, lN_mul]
      rw [wgN]
      by_cases z : aw.testBit i = true
      · rw [if_pos ((sh_b1 aw ha i (by omega)).mpr z), if_pos z]
      · rw [if_neg (fun q => z ((sh_b1 aw ha i (by omega)).mp q)), if_neg z]
  unfold pX7_byAway
  rw [jn_e, ten]
  unfold jX7_byAway_35
  rw [jn_e]
  have hb := awN_lt hvv h46 hval4 (2 ^ P 46)
  have h10 := p10_le h46
  have fin : ∀ w, eqB v w → ∃ v', jX7_byAway_155 F (nI d) (lN (10 ^ P 46)) (lN (awN vv (P 46) val (2 ^ P 46))) w = some (lowR (awN vv (P 46) val (2 ^ P 46)) (10 ^ P 46) d, v') ∧ eqM v v' := fun w hw => by
    refine ⟨stf w 15 0, ?_, fun i hi => hw.2.2 i (by omega), ⟨?_, ?_, ?_, ?_, ?_, ?_, ?_, ?_⟩, fun k hk => hw.2.1 k (by omega)⟩
    · unfold jX7_byAway_155
      rw [vl_e, M_low F (by omega) _ (by omega) (p10_0 _) (by omega) hd, bd_s]
    · rw [stf_1, if_neg (by omega)]; exact hw.1 0 (by omega) (by omega)
    · rw [stf_1, if_neg (by omega)]; exact hw.1 1 (by omega) (by omega)
    · rw [stf_1, if_neg (by omega)]; exact hw.1 7 (by omega) (by omega)
    · rw [stf_1, if_neg (by omega)]; exact hw.1 8 (by omega) (by omega)
    · rw [stf_1, if_pos rfl, e2]; rfl
    · rw [stf_1, if_neg (by omega)]; exact hw.1 17 (by omega) (by omega)
    · rw [stf_1, if_neg (by omega)]; exact hw.1 21 (by omega) (by omega)
    · rw [stf_1, if_neg (by omega)]; exact hw.1 22 (by omega) (by omega)
  refine lq2_up (n := 2 ^ P 46) (I := fun i x w => x = lN (awN vv (P 46) val i) ∧ eqB v w) (Q := fun o => ∃ v' : St, o = some (lowR (awN vv (P 46) val (2 ^ P 46)) (10 ^ P 46) d, v') ∧ eqM v v') ?_ ?_ (2 ^ P 46) 0 F 0 v (by omega) (by omega) ⟨l0, fun _ _ _ => rfl, fun _ _ => rfl, fun _ _ => rfl⟩
  · rintro g x w ⟨rfl, hw⟩
    have ew : w.2 0 46 = nI (P 46) := (hw.2.2 46 (by omega)).trans e46
    unfold bX7_byAway_38
    rw [g46, gd_true, t46, ew, shl1 _ (by omega), if_pos (yle (Nat.le_refl _) (by omega))]
    exact fin w hw
  · rintro g i x w hi ⟨rfl, hw⟩
    have ew : w.2 0 46 = nI (P 46) := (hw.2.2 46 (by omega)).trans e46
    have hi16 : i < 16 := by omega
    have mw : PgM 0 P (stf w 15 (nI i)) := fun k hk => (hw.2.2 _ (by omega)).trans (hM k hk)
    have ee : MEnv i 0 0 (stf w 15 (nI i)) := ⟨hi16, rfl, Or.inl rfl, (hw.1 17 (by omega) (by omega)).trans e4, by omega, by omega, (hw.2.1 1 (by omega)).trans e7⟩
    obtain ⟨w', k1, k2⟩ := hval i (stf w 15 (nI i)) (fun (a15 : Int32) (u16 : St) => vl (lN (awN vv (P 46) val i) + (lN (wgN vv i (P 46)) * (Int32.toInt64 a15))) (fun v17 => (g v17 (nI i + 1) u16))) hi16 mw ee ((hw.1 0 (by omega) (by omega)).trans h0)
    refine Or.inr ⟨lN (awN vv (P 46) val (i + 1)), w', ?_, rfl, fun k q1 q2 => ?_, fun k hk => (k2.2.1 k hk).trans (hw.2.1 k hk), fun k hk => (k2.2.2 k hk).trans (hw.2.2 k hk)⟩
    · unfold bX7_byAway_38
      rw [g46, gd_true, t46, ew, shl1 _ (by omega), if_neg (nle hi (by omega)), jn_e, wgt _ w i hi16 ew]
      unfold jX7_byAway_102
      rw [vl_e, jn_e, k1, vl_e, n2l (by have := hval4 i; omega), lN_mul, lN_add, nI_s, awN]
    · rw [k2.1 k q2, stf_1, if_neg q1, hw.1 k q1 q2]
/-! luck -/
theorem st_luck (F : Nat) (hLF : 200 ≤ F) {u v : St} (h : RR u v) (x0 x1 x2 x3 x4 : Int32) : ∃ (r : Int64) (u' v' : St), pX6_luck F x0 x1 x2 x3 x4 u = some (r, u') ∧ pX7_luck F x0 x1 x2 x3 x4 v = some (r, v') ∧ RR u' v' := by
  obtain ⟨c, jn, P, ⟨c1, c2, c3, hX, c5, c6, c7⟩, i0, i1, hs, ht, hw, htn, hsh, hc⟩ := id h
  unfold pX6_luck pX6_isFlame pX7_luck pX7_isHeard
  rcases rng x0 (a0 := 0) (b0 := 10) (a1 := 0) (b1 := 10) 0 10 rfl rfl rfl rfl (by omega) (by omega) with ⟨vv, v1, v2, rfl, o, o'⟩ | ⟨-, o, o'⟩
  · rcases two_case x1 c1 hX.1 c5 with ⟨a, a1, rfl, e, e'⟩ | ⟨e, e'⟩
    · rcases two_judge x3 c2 hX.2.1 c6 with ⟨b, b1, rfl, k, k'⟩ | ⟨k, k'⟩
      · rcases two_side x2 with ⟨s, s1, rfl, q, q'⟩ | ⟨q, q'⟩
        · rcases rng x4 (a0 := 0) (b0 := 1) (a1 := 0) (b1 := 1) 0 1 rfl rfl rfl rfl (by omega) (by omega) with ⟨d, d1, d2, rfl, t, t'⟩ | ⟨-, t, t'⟩
          · simp only [o, o', e, e', k, k', q, q', t, t', bd_s, i10, jn_e]
            have h46 := c3.1
            have h16 := p2_le h46
            obtain ⟨val, hvd⟩ : ∃ val : Nat → Nat, val = fun aw => if wn P (stg P aw (P 46)) a s b = true then 1 else 0 := ⟨_, rfl⟩
            have hval4 : ∀ aw, val aw ≤ 4 := fun aw => by
              rw [hvd]
              show (if wn P (stg P aw (P 46)) a s b = true then 1 else 0) ≤ 4
              split <;> omega
            obtain ⟨v', m1, m2⟩ := M_away F hLF (vv := vv) (d := d) (val := val) v (nI a) (nI s) (nI b) c3 c7 (menv0 hc) c5 (by omega) (by omega) hval4 (fun aw w J ha hMw hEw h0w => by
              obtain ⟨w', g1, g2⟩ := M_isWon F (by omega) (p := 0) (s := s) w (by omega) (by omega) c1 c2 c3 hMw hEw a1 b1 s1
              rw [stm_a] at g1
              have g1' : pX7_isWonBy F 0 (nI a) (nI s) (nI b) w = some (if wn P (stg P aw (P 46)) a s b = true then 1 else 0, w') := g1
              refine ⟨w', ?_, g2.e⟩
              rw [if_neg (m4_lt (by omega)).2.1, g1', bd_s, hvd]
              show (if (if wn P (stg P aw (P 46)) a s b = true then (1 : Int32) else 0) = 0 then J 0 w' else J 1 w') = J (nI (if wn P (stg P aw (P 46)) a s b = true then 1 else 0)) w'
              by_cases z : wn P (stg P aw (P 46)) a s b = true
              · rw [if_pos z, if_pos z, if_neg (by decide)]; rfl
              · rw [if_neg z, if_neg z, if_pos rfl]; rfl)
            rw [m1, bd_s]
            have hb := awN_lt (show vv ≤ 10 by omega) h46 hval4 (2 ^ P 46)
            have h10 := p10_le h46
            have pX : ∃ u', lq2 (bX6_luck_53 F (nI vv) (nI a) (nI s) (nI b) (jX6_luck_107 F (nI d))) F 0 0 u = some (lowR (awN vv (P 46) val (2 ^ P 46)) (10 ^ P 46) d, u') ∧ eqT u u' := by
              refine lq2_up (n := 2 ^ P 46) (I := fun i x w => x = lN (awN vv (P 46) val i) ∧ eqT u w) (Q := fun o => ∃ u' : St, o = some (lowR (awN vv (P 46) val (2 ^ P 46)) (10 ^ P 46) d, u') ∧ eqT u u') ?_ ?_ (2 ^ P 46) 0 F 0 u (by omega) (by omega) ⟨l0, eqT.rf⟩
              · rintro g x w ⟨rfl, hw'⟩
                refine ⟨w, ?_, hw'⟩
                have e2 : w.1 2 = nI (P 46) := (hw'.1 2 (by omega)).trans hX.2.2.1
                unfold bX6_luck_53
                rw [e2, shl1 _ (by omega), if_pos (yle (Nat.le_refl _) (by omega))]
                unfold jX6_luck_107
                rw [X_tenths F (by omega) w h46 e2, bd_s, X_low F (by omega) w (by omega) (p10_0 _) (by omega) (by omega), bd_s]
              · rintro g i x w hi ⟨rfl, hw'⟩
                have e2 : w.1 2 = nI (P 46) := (hw'.1 2 (by omega)).trans hX.2.2.1
                obtain ⟨y, y1, y2, y3⟩ := X_prepP F (by omega) w c1 c2 c3 (hX.eq (by omega) hw'.x) a1 b1 (aw := i) (by omega)
                obtain ⟨z, z1, -, z3⟩ := X_heldP F (by omega) y c3 a1 b1 (fun m => stg_lt c3 i m) y2
                have hbd := hP_bd c3 (stg P i (P 46)) a1 b1
                have ez : z.1 2 = nI (P 46) := (z3.1 2 (by omega)).trans ((y3.1 2 (by omega)).trans e2)
                refine Or.inr ⟨lN (awN vv (P 46) val (i + 1)), z, ?_, rfl, (hw'.tr y3).tr z3⟩
                unfold bX6_luck_53 pX6_prepare
                rw [e2, shl1 _ (by omega), if_neg (nle hi (by omega)), y1]
                simp only [bd_s]
                rw [z1, bd_s]
                simp only [jn_e, nI_s, X_weight F (show 80 ≤ F by omega) z h46 ez (show vv ≤ 10 by omega) (show i < 16 by omega), bd_s, vl_e, lN_add]
                rw [ifeq (by omega) (by omega), awN]
                have ev : val i = if (hP P (stg P i (P 46)) a b).1 = s + 1 then 1 else 0 := by
                  rw [hvd]
                  show (if wn P (stg P i (P 46)) a s b = true then 1 else 0) = _
                  by_cases z : (hP P (stg P i (P 46)) a b).1 = s + 1
                  · rw [if_pos z, if_pos (show wn P (stg P i (P 46)) a s b = true from decide_eq_true z)]
                  · rw [if_neg z, if_neg (by unfold wn; simp [z])]
                rw [ev]
                by_cases z : (hP P (stg P i (P 46)) a b).1 = s + 1
                · rw [if_pos z, if_pos z, Nat.mul_one]
                · rw [if_neg z, if_neg z, Nat.mul_zero]
                  rfl
            obtain ⟨u', p1, p2⟩ := pX
            exact ⟨_, u', v', p1, rfl, h.eq p2.x m2⟩
          · simp only [o, o', e, e', k, k', q, q', t, t', bd_s, i10, i00]
            exact ⟨_, _, _, rfl, rfl, h⟩
        · simp only [o, o', e, e', k, k', q, q', bd_s, i10, i00]
          exact ⟨_, _, _, rfl, rfl, h⟩
      · rcases two_side x2 with ⟨s, s1, rfl, q, q'⟩ | ⟨q, q'⟩
        · simp only [o, o', e, e', k, k', q, q', bd_s, i10, i00]
          exact ⟨_, _, _, rfl, rfl, h⟩
        · simp only [o, o', e, e', k, k', q, q', bd_s, i10, i00]
          exact ⟨_, _, _, rfl, rfl, h⟩
    · simp only [o, o', e, e', bd_s, i10, i00]
      exact ⟨_, _, _, rfl, rfl, h⟩
  · simp only [o, o', bd_s, i00]
    exact ⟨_, _, _, rfl, rfl, h⟩
theorem step_luck {u v : St} (h : RR u v) (x0 x1 x2 x3 x4 : Int32) : ∃ (r : Int64) (u' v' : St), pX6_luck LF x0 x1 x2 x3 x4 u = some (r, u') ∧ pX7_luck LF x0 x1 x2 x3 x4 v = some (r, v') ∧ RR u' v' := st_luck LF (by decide) h x0 x1 x2 x3 x4
theorem st_mean (F : Nat) (hLF : 200 ≤ F) {u v : St} (h : RR u v) (x0 x1 x2 : Int32) : ∃ (r : Int64) (u' v' : St), pX6_mean F x0 x1 x2 u = some (r, u') ∧ pX7_mean F x0 x1 x2 v = some (r, v') ∧ RR u' v' := by
  obtain ⟨c, jn, P, ⟨c1, c2, c3, hX, c5, c6, c7⟩, i0, i1, hs, ht, hw, htn, hsh, hc⟩ := id h
  unfold pX6_mean pX7_mean
  rcases rng x0 (a0 := 0) (b0 := 10) (a1 := 0) (b1 := 10) 0 10 rfl rfl rfl rfl (by omega) (by omega) with ⟨vv, v1, v2, rfl, o, o'⟩ | ⟨-, o, o'⟩
  · rcases two_side x1 with ⟨s, s1, rfl, q, q'⟩ | ⟨q, q'⟩
    · rcases rng x2 (a0 := 0) (b0 := 1) (a1 := 0) (b1 := 1) 0 1 rfl rfl rfl rfl (by omega) (by omega) with ⟨d, d1, d2, rfl, t, t'⟩ | ⟨-, t, t'⟩
      · simp only [o, o', q, q', t, t', bd_s, i10, jn_e]
        have h46 := c3.1
        have h16 := p2_le h46
        have hval4 : ∀ aw, wd P aw s c ≤ 4 := fun aw => by
          have := wd_le P aw s c
          omega
        obtain ⟨v', m1, m2⟩ := M_away F hLF (vv := vv) (d := d) (val := fun aw => wd P aw s c) v (-4) (nI s) (-4) c3 c7 (menv0 hc) c5 (by omega) (by omega) hval4 (fun aw w J ha hMw hEw h0w => by
          obtain ⟨w', g1, g2⟩ := M_wonD F (by omega) (p := 0) w (Or.inl rfl) c1 c2 c3 hMw hEw h0w s1
          have g1' : pX7_wonThen F 0 (nI s) w = some (nI (wd P aw s c), w') := g1
          refine ⟨w', ?_, g2.e⟩
          rw [if_pos rfl, g1', bd_s])
        rw [m1, bd_s]
        have hb := awN_lt (val := fun aw => wd P aw s c) (show vv ≤ 10 by omega) h46 hval4 (2 ^ P 46)
        have h10 := p10_le h46
        have pX : ∃ u', lq2 (bX6_mean_38 F (nI vv) (nI s) (jX6_mean_79 F (nI d))) F 0 0 u = some (lowR (awN vv (P 46) (fun aw => wd P aw s c) (2 ^ P 46)) (10 ^ P 46) d, u') ∧ eqG u u' := by
          refine lq2_up (n := 2 ^ P 46) (I := fun i x w => x = lN (awN vv (P 46) (fun aw => wd P aw s c) i) ∧ eqG u w) (Q := fun o => ∃ u' : St, o = some (lowR (awN vv (P 46) (fun aw => wd P aw s c) (2 ^ P 46)) (10 ^ P 46) d, u') ∧ eqG u u') ?_ ?_ (2 ^ P 46) 0 F 0 u (by omega) (by omega) ⟨l0, eqG.rf⟩
          · rintro g x w ⟨rfl, hw'⟩
            refine ⟨w, ?_, hw'⟩
            have e2 : w.1 2 = nI (P 46) := (hw'.1 2 (by omega)).trans hX.2.2.1
            unfold bX6_mean_38
            rw [e2, shl1 _ (by omega), if_pos (yle (Nat.le_refl _) (by omega))]
            unfold jX6_mean_79
            rw [X_tenths F (by omega) w h46 e2, bd_s, X_low F (by omega) w (by omega) (p10_0 _) (by omega) (by omega), bd_s]
          · rintro g i x w hi ⟨rfl, hw'⟩
            have e2 : w.1 2 = nI (P 46) := (hw'.1 2 (by omega)).trans hX.2.2.1
            obtain ⟨y, y1, y2⟩ := X_wonD F (by omega) (aw := i) w c1 c2 c3 (hX.eq (by omega) hw'.x) (by omega) s1
            refine Or.inr ⟨lN (awN vv (P 46) (fun aw => wd P aw s c) (i + 1)), y, ?_, rfl, hw'.tr y2⟩
            unfold bX6_mean_38
            rw [e2, shl1 _ (by omega), if_neg (nle hi (by omega)), X_weight F (by omega) w h46 e2 (by omega) (by omega), bd_s, y1, bd_s, vl_e, nI_s, n2l (by have := hval4 i; omega), lN_mul, lN_add, awN]
        obtain ⟨u', p1, p2⟩ := pX
        exact ⟨_, u', v', p1, rfl, h.eq p2.x m2⟩
      · simp only [o, o', q, q', t, t', bd_s, i10, i00]
        exact ⟨_, _, _, rfl, rfl, h⟩
    · simp only [o, o', q, q', bd_s, i10, i00]
      exact ⟨_, _, _, rfl, rfl, h⟩
  · simp only [o, o', bd_s, i00]
    exact ⟨_, _, _, rfl, rfl, h⟩
theorem step_mean {u v : St} (h : RR u v) (x0 x1 x2 : Int32) : ∃ (r : Int64) (u' v' : St), pX6_mean LF x0 x1 x2 u = some (r, u') ∧ pX7_mean LF x0 x1 x2 v = some (r, v') ∧ RR u' v' := st_mean LF (by decide) h x0 x1 x2
