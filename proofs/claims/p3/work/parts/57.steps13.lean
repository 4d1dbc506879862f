/-! PURE: bits (out of the kit's laws), casts -/
def bt (x : Int32) (i : Nat) : Bool := x.toBitVec.getLsbD i
theorem b_ext {x y : Int32} (h : ∀ i, i < 32 → bt x i = bt y i) : x = y := Int32.toBitVec_inj.mp (BitVec.eq_of_getLsbD_eq (fun i hi => h i hi))
theorem s_l : ∀ n, n < 32 → ((nI n &&& 31).toBitVec.smod 32).toNat = n := by decide +kernel
theorem b_shl (n : Nat) (hn : n < 32) (x : Int32) {i : Nat} (hi : i < 32) : bt (x <<< (nI n &&& 31)) i = (decide (n ≤ i) && bt x (i - n)) := by
  unfold bt
  rw [Int32.toBitVec_shiftLeft]
  show (x.toBitVec <<< ((nI n &&& 31).toBitVec.smod 32).toNat).getLsbD i = _
  rw [s_l n hn, BitVec.getLsbD_shiftLeft]
  rcases Nat.lt_or_ge i n with h | h
  · simp [h, Nat.not_le.mpr h]
  · simp [hi, h, Nat.not_lt.mpr h]
theorem b_sshr (n : Nat) (hn : n < 32) (x : Int32) {i : Nat} (hi : i < 32) : bt (x >>> (nI n &&& 31)) i = if n + i < 32 then bt x (n + i) else bt x 31 := by
  unfold bt
  rw [Int32.toBitVec_shiftRight]
  show (x.toBitVec.sshiftRight ((nI n &&& 31).toBitVec.smod 32).toNat).getLsbD i = _
  rw [s_l n hn, BitVec.getLsbD_sshiftRight, BitVec.msb_eq_getLsbD_last]
  simp [hi]
theorem cast8 (x : Int32) : (x <<< ((24 : Int32) &&& 31)) >>> ((24 : Int32) &&& 31) = Int8.toInt32 (Int32.toInt8 x) := by
  apply b_ext
  intro i hi
  have e : bt (Int8.toInt32 (Int32.toInt8 x)) i = if i < 8 then bt x i else bt x 7 := by
    unfold bt
    rw [Int8.toBitVec_toInt32, Int32.toBitVec_toInt8, BitVec.getLsbD_signExtend, BitVec.msb_eq_getLsbD_last, BitVec.getLsbD_signExtend, BitVec.getLsbD_signExtend]
    by_cases h : i < 8
    · simp [hi, h]
    · simp [hi, h]
  rw [e]
  show bt ((x <<< (nI 24 &&& 31)) >>> (nI 24 &&& 31)) i = _
  rw [b_sshr 24 (by omega) _ hi]
  by_cases h : i < 8
  · rw [if_pos (by omega), if_pos h, b_shl 24 (by omega) _ (by omega), decide_eq_true (by omega), show 24 + i - 24 = i by omega, Bool.true_and]
  · rw [if_neg (by omega), if_neg h, b_shl 24 (by omega) _ (by omega), decide_eq_true (by omega), Bool.true_and]
theorem cast16 (x : Int32) : (x <<< ((16 : Int32) &&& 31)) >>> ((16 : Int32) &&& 31) = Int16.toInt32 (Int32.toInt16 x) := by
  apply b_ext
  intro i hi
  have e : bt (Int16.toInt32 (Int32.toInt16 x)) i = if i < 16 then bt x i else bt x 15 := by
    unfold bt
    rw [Int16.toBitVec_toInt32, Int32.toBitVec_toInt16, BitVec.getLsbD_signExtend, BitVec.msb_eq_getLsbD_last, BitVec.getLsbD_signExtend, BitVec.getLsbD_signExtend]
    by_cases h : i < 16
    · simp [hi, h]
    · simp [hi, h]
  rw [e]
  show bt ((x <<< (nI 16 &&& 31)) >>> (nI 16 &&& 31)) i = _
  rw [b_sshr 16 (by omega) _ hi]
  by_cases h : i < 16
  · rw [if_pos (by omega), if_pos h, b_shl 16 (by omega) _ (by omega), decide_eq_true (by omega), show 16 + i - 16 = i by omega, Bool.true_and]
  · rw [if_neg (by omega), if_neg h, b_shl 16 (by omega) _ (by omega), decide_eq_true (by omega), Bool.true_and]
/-! sheets -/
theorem X_renewL (F : Nat) (hF : 80 ≤ F) {k n : Nat} (hk : k < 4) (hn : n ≤ 40) (u : St) : ∃ w, lq1 (bX4_renew_17 F (nI k) (nI n)) F 0 u = some ((), w) ∧ w.1 = u.1 ∧ (∀ a, a ≠ 63 → w.2 a = u.2 a) ∧ (∀ x, x < n → w.2 63 (40 * k + x) = 0) ∧ ∀ x, (x < 40 * k ∨ 40 * k + 40 ≤ x) → w.2 63 x = u.2 63 x := by
  refine lq1_up (n := n) (I := fun i w => w.1 = u.1 ∧ (∀ a, a ≠ 63 → w.2 a = u.2 a) ∧ (∀ x, x < i → w.2 63 (40 * k + x) = 0) ∧ ∀ x, (x < 40 * k ∨ 40 * k + 40 ≤ x) → w.2 63 x = u.2 63 x) (Q := fun o => ∃ w : St, o = some ((), w) ∧ w.1 = u.1 ∧ (∀ a, a ≠ 63 → w.2 a = u.2 a) ∧ (∀ x, x < n → w.2 63 (40 * k + x) = 0) ∧ ∀ x, (x < 40 * k ∨ 40 * k + 40 ≤ x) → w.2 63 x = u.2 63 x) ?_ ?_ n 0 F u (by omega) (by omega) ⟨rfl, fun _ _ => rfl, fun x hx => by omega, fun _ _ => rfl⟩
  · intro s w hw
    refine ⟨w, ?_, hw⟩
    unfold bX4_renew_17
    rw [if_pos (yle (Nat.le_refl _) (by omega))]
  · rintro s i w hi ⟨w1, w2, w3, w4⟩
    refine Or.inr ⟨sta w 63 (nI (k * 40 + i)) 0, ?_, w1, fun a ha => by rw [sta_m _ _ _ ha]; exact w2 a ha, fun x hx => ?_, fun x hx => ?_⟩
    · unfold bX4_renew_17
      rw [if_neg (nle hi (by omega)), mt40, nI_add, nI_s, gd_i (by omega) (by omega), vl_e]
    · rw [sta_h _ _ (by omega)]
      by_cases q : x = i
      · rw [if_pos (by omega)]
      · rw [if_neg (by omega)]; exact w3 x (by omega)
    · rw [sta_h _ _ (by omega), if_neg (by omega)]; exact w4 x hx
theorem M_renewL (F : Nat) (hF : 80 ≤ F) {k : Nat} (hk : k < 4) (u : St) : ∃ w, lq1 (bX7_sheet_56 F (nI k)) F 0 u = some ((1 : Int32), w) ∧ w.1 = u.1 ∧ (∀ a, a ≠ 11 → w.2 a = u.2 a) ∧ (∀ x, x < 40 → w.2 11 (40 * k + x) = 0) ∧ ∀ x, (x < 40 * k ∨ 40 * k + 40 ≤ x) → w.2 11 x = u.2 11 x := by
  refine lq1_up (n := 40) (I := fun i w => w.1 = u.1 ∧ (∀ a, a ≠ 11 → w.2 a = u.2 a) ∧ (∀ x, x < i → w.2 11 (40 * k + x) = 0) ∧ ∀ x, (x < 40 * k ∨ 40 * k + 40 ≤ x) → w.2 11 x = u.2 11 x) (Q := fun o => ∃ w : St, o = some ((1 : Int32), w) ∧ w.1 = u.1 ∧ (∀ a, a ≠ 11 → w.2 a = u.2 a) ∧ (∀ x, x < 40 → w.2 11 (40 * k + x) = 0) ∧ ∀ x, (x < 40 * k ∨ 40 * k + 40 ≤ x) → w.2 11 x = u.2 11 x) ?_ ?_ 40 0 F u (by omega) (by omega) ⟨rfl, fun _ _ => rfl, fun x hx => by omega, fun _ _ => rfl⟩
  · intro s w hw
    refine ⟨w, ?_, hw⟩
    unfold bX7_sheet_56
    rw [L40, if_pos (yle (Nat.le_refl _) (by omega))]
  · rintro s i w hi ⟨w1, w2, w3, w4⟩
    refine Or.inr ⟨sta w 11 (nI (40 * k + i)) 0, ?_, w1, fun a ha => by rw [sta_m _ _ _ ha]; exact w2 a ha, fun x hx => ?_, fun x hx => ?_⟩
    · unfold bX7_sheet_56
      rw [if_neg (show ¬ (40 : Int32) ≤ nI i from by rw [L40]; exact nle hi (by omega)), tm40, nI_add, nI_s, gd_i (by omega) (by omega), vl_e]
    · rw [sta_h _ _ (by omega)]
      by_cases q : x = i
      · rw [if_pos (by omega)]
      · rw [if_neg (by omega)]; exact w3 x (by omega)
    · rw [sta_h _ _ (by omega), if_neg (by omega)]; exact w4 x hx
theorem two_sheet (x0 x1 : Int32) : (∃ k ln : Nat, k < 4 ∧ ln ≤ 2 ∧ x0 = nI k ∧ x1 = nI ln ∧ (∀ F u, pX6_isSheet F x0 x1 u = some (1, u)) ∧ (∀ F v, pX7_in F (Int32.toInt64 x0) 0 3 v = some (1, v)) ∧ ∀ F v, pX7_in F (Int32.toInt64 x1) 0 2 v = some (1, v)) ∨ ((∀ F u, pX6_isSheet F x0 x1 u = some (0, u)) ∧ ((∀ F v, pX7_in F (Int32.toInt64 x0) 0 3 v = some (0, v)) ∨ ((∀ F v, pX7_in F (Int32.toInt64 x0) 0 3 v = some (1, v)) ∧ ∀ F v, pX7_in F (Int32.toInt64 x1) 0 2 v = some (0, v)))) := by
  unfold pX6_isSheet
  rcases rng x0 (a0 := 0) (b0 := 3) (a1 := 0) (b1 := 3) 0 3 rfl rfl rfl rfl (by omega) (by omega) with ⟨k, k1, k2, rfl, e, e'⟩ | ⟨-, e, e'⟩
  · rcases rng x1 (a0 := 0) (b0 := 2) (a1 := 0) (b1 := 2) 0 2 rfl rfl rfl rfl (by omega) (by omega) with ⟨ln, l1, l2, rfl, g, g'⟩ | ⟨-, g, g'⟩
    · exact Or.inl ⟨k, ln, by omega, by omega, rfl, rfl, fun F u => by rw [e, bd_s, i10, g, bd_s, i10], e', g'⟩
    · exact Or.inr ⟨fun F u => by rw [e, bd_s, i10, g, bd_s, i00], Or.inr ⟨e', g'⟩⟩
  · exact Or.inr ⟨fun F u => by rw [e, bd_s, i00], Or.inl e'⟩
theorem RImg.un {k c jn : Nat} {u v u' v' : St} (h : RImg k c jn u v) (hk : k < 2) (e1 : u'.1 = u.1) (e2 : ∀ a, (a < 63 ∨ 65 < a) → u'.2 a = u.2 a) (f1 : v'.2 12 = v.2 12) (f2 : v'.2 0 = v.2 0) : RImg k c jn u' v' := h.same hk (fun i hi => by rw [e1]) (fun i hi => by rw [e2 _ (by omega)]) (by rw [e2 66 (by omega)]) (by rw [f1]) (fun i hi => by rw [f2])
/-- the sheets alone have changed -/
theorem RR.sh {u v u' v' : St} (h : RR u v) (e1 : u'.1 = u.1) (e2 : ∀ a, (a < 63 ∨ 65 < a) → u'.2 a = u.2 a) (f1 : v'.1 = v.1) (f2 : ∀ a, (a < 9 ∨ 11 < a) → v'.2 a = v.2 a) (hs : ∀ k, k < 4 → RSheet k u' v') : RR u' v' := by
  obtain ⟨c, jn, P, ⟨c1, c2, c3, hX, c5, c6, c7⟩, i0, i1, hse, ht, hw, htn, hsh, hc⟩ := h
  refine ⟨c, jn, P, ⟨c1, c2, c3, hX.frj (fun i hi => by rw [e1]) (fun i hi => e2 _ (by omega)), by rw [f1]; exact c5, by rw [f1]; exact c6, fun i hi => by rw [f2 0 (by omega)]; exact c7 i hi⟩, i0.un (by omega) e1 e2 (f2 _ (by omega)) (f2 _ (by omega)), i1.un (by omega) e1 e2 (f2 _ (by omega)) (f2 _ (by omega)), hse.fr (by rw [e1]) (e2 _ (by omega)) (e2 _ (by omega)) (e2 _ (by omega)) (by rw [f1]) (f2 _ (by omega)), ht.fr (by rw [e1]) (e2 _ (by omega)) (by rw [f1]) (f2 _ (by omega)), by rw [e1, f1]; exact hw, by rw [e1, f1]; exact htn, hs, hc.fr (by rw [f1]) (by rw [f1]) (f2 _ (by omega)) (f2 _ (by omega)) (f2 _ (by omega))⟩
theorem step_sheet {u v : St} (h : RR u v) (x0 x1 x2 : Int32) : ∃ (r : Int32) (u' v' : St), pX6_sheet LF x0 x1 x2 u = some (r, u') ∧ pX7_sheet LF x0 x1 x2 v = some (r, v') ∧ RR u' v' := by
  have hLF : 80 ≤ LF := by decide
  have hsh : ∀ k, k < 4 → RSheet k u v := by
    obtain ⟨c, jn, P, -, -, -, -, -, -, -, q, -⟩ := h
    exact q
  unfold pX6_sheet pX7_sheet
  rcases two_sheet x0 x1 with ⟨k, ln, hk, hl, rfl, rfl, e, e0, e1⟩ | ⟨e, e0 | ⟨e0, e1⟩⟩
  · rw [e, bd_s, i10, e0, bd_s, i10, e1, bd_s, i10]
    by_cases q1 : x2 ≤ 40
    · rw [if_pos q1, if_pos q1]
      by_cases q2 : (0 : Int32) ≤ x2
      · rw [if_pos q2, if_pos q2]
        obtain ⟨n, -, n2, rfl⟩ := nI_in2 (x := x2) (lo := 0) (hi := 40) ⟨by have := Int32.le_iff_toInt_le.mp q2; exact this, by have := Int32.le_iff_toInt_le.mp q1; exact this⟩ (by omega)
        obtain ⟨w, w1, w2, w3, w4, w5⟩ := X_renewL LF hLF hk n2 (sta (sta u 64 (nI k) (nI ln)) 65 (nI k) (nI n))
        obtain ⟨y, y1, y2, y3, y4, y5⟩ := M_renewL LF hLF hk (sta (sta v 9 (nI k) (nI ln)) 10 (nI k) (nI n))
        refine ⟨1, w, y, ?_, ?_, h.sh (w2.trans rfl) (fun a ha => by rw [w3 a (by omega), sta_m _ _ _ (by omega), sta_m _ _ _ (by omega)]) (y2.trans rfl) (fun a ha => by rw [y3 a (by omega), sta_m _ _ _ (by omega), sta_m _ _ _ (by omega)]) (fun j hj => ?_)⟩
        · unfold pX4_renew
          rw [gd_i (by omega) (by omega), vl_e, gd_i (by omega) (by omega), vl_e, w1, bd_s]
        · rw [gd_i (by omega) (by omega), vl_e, gd_i (by omega) (by omega), vl_e, y1]
        · have x64 : w.2 64 j = if j = k then nI ln else u.2 64 j := by rw [w3 64 (by omega), sta_m _ _ _ (by omega), sta_h _ _ (by omega)]
          have x65 : w.2 65 j = if j = k then nI n else u.2 65 j := by rw [w3 65 (by omega), sta_h _ _ (by omega), sta_m _ _ _ (by omega)]
          have z9 : y.2 9 j = if j = k then nI ln else v.2 9 j := by rw [y3 9 (by omega), sta_m _ _ _ (by omega), sta_h _ _ (by omega)]
          have z10 : y.2 10 j = if j = k then nI n else v.2 10 j := by rw [y3 10 (by omega), sta_h _ _ (by omega), sta_m _ _ _ (by omega)]
          by_cases q : j = k
          · subst q
            rw [if_pos rfl] at x64 x65 z9 z10
            exact Or.inr ⟨ln, n, hl, n2, x64, z9, x65, z10, fun i hi => by rw [w4 i hi, y4 i (by omega)]⟩
          · rw [if_neg q] at x64 x65 z9 z10
            have x63 : ∀ i, i < 40 → w.2 63 (40 * j + i) = u.2 63 (40 * j + i) := fun i hi => by rw [w5 _ (by omega), sta_m _ _ _ (by omega), sta_m _ _ _ (by omega)]
            have z11 : ∀ i, i < 40 → y.2 11 (40 * j + i) = v.2 11 (40 * j + i) := fun i hi => by rw [y5 _ (by omega), sta_m _ _ _ (by omega), sta_m _ _ _ (by omega)]
            rcases hsh j hj with ⟨a, b⟩ | ⟨l', m', a1, a2, a3, a4, a5, a6, a7⟩
            · exact Or.inl ⟨x65.trans a, z9.trans b⟩
            · exact Or.inr ⟨l', m', a1, a2, x64.trans a3, z9.trans a4, x65.trans a5, z10.trans a6, fun i hi => by rw [x63 i (by omega), z11 i (by omega)]; exact a7 i hi⟩
      · rw [if_neg q2, if_neg q2]
        exact ⟨_, _, _, rfl, rfl, h⟩
    · rw [if_neg q1, if_neg q1]
      exact ⟨_, _, _, rfl, rfl, h⟩
  · rw [e, bd_s, i00, e0, bd_s, i00]
    exact ⟨_, _, _, rfl, rfl, h⟩
  · rw [e, bd_s, i00, e0, bd_s, i10, e1, bd_s, i00]
    exact ⟨_, _, _, rfl, rfl, h⟩
theorem isS0 (x : Int32) : (∃ k : Nat, k < 4 ∧ x = nI k ∧ (∀ F u, pX6_isSheet F x 0 u = some (1, u)) ∧ ∀ F v, pX7_in F (Int32.toInt64 x) 0 3 v = some (1, v)) ∨ ((∀ F u, pX6_isSheet F x 0 u = some (0, u)) ∧ ∀ F v, pX7_in F (Int32.toInt64 x) 0 3 v = some (0, v)) := by
  have g : ∀ F u, pX6_isIn F (Int32.toInt64 0) 0 2 u = some (1, u) := fun F u => by
    rw [X_isIn, b01_t (by decide +kernel)]
  unfold pX6_isSheet
  rcases rng x (a0 := 0) (b0 := 3) (a1 := 0) (b1 := 3) 0 3 rfl rfl rfl rfl (by omega) (by omega) with ⟨k, k1, k2, rfl, e, e'⟩ | ⟨-, e, e'⟩
  · exact Or.inl ⟨k, by omega, rfl, fun F u => by rw [e, bd_s, i10, g, bd_s, i10], e'⟩
  · exact Or.inr ⟨fun F u => by rw [e, bd_s, i00], e'⟩
/-- a cell of a sheet: on both sides, or on none -/
theorem two_cell {u v : St} {k n : Nat} (hk : k < 4) (hn : n ≤ 40) (e5 : u.2 65 k = nI n) (e6 : v.2 10 k = nI n) (x : Int32) : (∃ i : Nat, i < n ∧ x = nI i ∧ (∀ F, pX4_hasCell F (nI k) x u = some (1, u)) ∧ ∀ F, pX7_in F (Int32.toInt64 x) 0 (Int32.toInt64 (v.2 10 k - 1)) v = some (1, v)) ∨ (¬ (0 ≤ x.toInt ∧ x.toInt ≤ (n : Int) - 1) ∧ (∀ F, pX4_hasCell F (nI k) x u = some (0, u)) ∧ ∀ F, pX7_in F (Int32.toInt64 x) 0 (Int32.toInt64 (v.2 10 k - 1)) v = some (0, v)) := by
  have hb : (nI n - 1).toInt = (n : Int) - 1 := subL (by omega)
  rw [e6]
  rcases rng x (a0 := 0) (b0 := nI n - 1) (a1 := 0) (b1 := Int32.toInt64 (nI n - 1)) 0 ((n : Int) - 1) rfl rfl hb (by rw [tI64]; exact hb) (by omega) (by omega) with ⟨i, i1, i2, rfl, e, e'⟩ | ⟨q, e, e'⟩
  · exact Or.inl ⟨i, by omega, rfl, fun F => by unfold pX4_hasCell; rw [gd_i (by omega) (by omega), cl (by omega), e5, e, bd_s, z01_1, gd_true], fun F => e' F v⟩
  · exact Or.inr ⟨q, fun F => by unfold pX4_hasCell; rw [gd_i (by omega) (by omega), cl (by omega), e5, e, bd_s, z01_0, gd_true], fun F => e' F v⟩
theorem step_lay {u v : St} (h : RR u v) (x0 x1 x2 : Int32) : ∃ (r : Int32) (u' v' : St), pX6_lay LF x0 x1 x2 u = some (r, u') ∧ pX7_lay LF x0 x1 x2 v = some (r, v') ∧ RR u' v' := by
  have hsh : ∀ k, k < 4 → RSheet k u v := by
    obtain ⟨c, jn, P, -, -, -, -, -, -, -, q, -⟩ := h
    exact q
  unfold pX6_lay pX7_lay
  rcases isS0 x0 with ⟨k, hk, rfl, e, e0⟩ | ⟨e, e0⟩
  · have zg : ∀ o : Option (Int32 × St), gd (inb (nI k) 4) o = o := fun o => gd_i hk (by omega) o
    have zg' : ∀ o : Option (Unit × St), gd (inb (nI k) 4) o = o := fun o => gd_i hk (by omega) o
    have zc : Int32.toNatClampNeg (nI k) = k := cl (by omega)
    rw [e, bd_s, i10, e0, bd_s, i10]
    unfold pX4_isNothing
    rw [zg, zg, zc]
    rcases hsh k hk with ⟨a, b⟩ | ⟨ln, n, a1, a2, a3, a4, a5, a6, a7⟩
    · rw [a, b, if_pos rfl, if_pos rfl, bd_s, i10]
      exact ⟨_, _, _, rfl, rfl, h⟩
    · rw [a5, if_neg (m4_lt (by omega)).2.1, a4, if_neg (m4_lt (by omega)).2.1, bd_s, i00, zg]
      rcases two_cell hk a2 a5 a6 x1 with ⟨i, hi, rfl, g, g'⟩ | ⟨-, g, g'⟩
      · rw [g, bd_s, i10, g', bd_s, i10, zg]
        obtain ⟨z, hz⟩ : ∃ z, z = if ln = 0 then Int8.toInt32 (Int32.toInt8 x2) else if ln = 1 then Int16.toInt32 (Int32.toInt16 x2) else x2 := ⟨_, rfl⟩
        have kX : pX4_put LF (nI k) (nI i) x2 u = some ((), sta u 63 (nI (k * 40 + i)) z) := by
          unfold pX4_put
          simp only [zg', zc, a3, jn_e, vl_e, mt40, nI_add]
          rw [L0, L1]
          have q : ln = 0 ∨ ln = 1 ∨ ln = 2 := by omega
          rcases q with rfl | rfl | rfl
          · rw [if_pos rfl] at hz
            rw [if_pos rfl, gd_i (by omega) (by omega), hz]
          · rw [if_neg (by omega), if_pos rfl] at hz
            rw [if_neg (by decide), if_pos rfl, gd_i (by omega) (by omega), hz]
          · rw [if_neg (by omega), if_neg (by omega)] at hz
            rw [if_neg (by decide), if_neg (by decide), gd_i (by omega) (by omega), hz]
        rw [kX, bd_s]
        refine ⟨1, sta u 63 (nI (k * 40 + i)) z, sta v 11 (nI (40 * k + i)) z, rfl, ?_, h.sh rfl (fun a ha => sta_m _ _ _ (by omega)) rfl (fun a ha => sta_m _ _ _ (by omega)) (fun j hj => ?_)⟩
        · rw [cast8, cast16]
          simp only [zg, zc, a4, jn_e, vl_e, tm40, nI_add]
          have q : ln = 0 ∨ ln = 1 ∨ ln = 2 := by omega
          rcases q with rfl | rfl | rfl
          · rw [if_pos rfl] at hz
            rw [if_pos (show nI 0 = 0 from rfl), gd_i (by omega) (by omega), hz]
          · rw [if_neg (by omega), if_pos rfl] at hz
            rw [if_neg (show ¬ nI 1 = 0 by decide), if_pos (show nI 1 = 1 from rfl), gd_i (by omega) (by omega), hz]
          · rw [if_neg (by omega), if_neg (by omega)] at hz
            rw [if_neg (show ¬ nI 2 = 0 by decide), if_neg (show ¬ nI 2 = 1 by decide), gd_i (by omega) (by omega), hz]
        · unfold RSheet
          rw [sta_m u _ _ (show 64 ≠ 63 by omega), sta_m u _ _ (show 65 ≠ 63 by omega), sta_m v _ _ (show 9 ≠ 11 by omega), sta_m v _ _ (show 10 ≠ 11 by omega)]
          rcases hsh j hj with a | ⟨l', m', d1, d2, d3, d4, d5, d6, d7⟩
          · exact Or.inl a
          · refine Or.inr ⟨l', m', d1, d2, d3, d4, d5, d6, fun y hy => ?_⟩
            rw [sta_h _ _ (by omega), sta_h _ _ (by omega)]
            by_cases q : 40 * j + y = 40 * k + i
            · rw [if_pos (by omega), if_pos q]
            · rw [if_neg (by omega), if_neg q]; exact d7 y hy
      · rw [g, bd_s, i00, g', bd_s, i00]
        exact ⟨_, _, _, rfl, rfl, h⟩
  · rw [e, bd_s, i00, e0, bd_s, i00]
    exact ⟨_, _, _, rfl, rfl, h⟩
