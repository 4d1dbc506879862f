/-! PURE: text: names -/
def cutN (k : Nat) : Nat := ([0, 6, 9, 13, 18, 23, 27, 32, 36, 40, 47, 53] : List Nat).getD k 0
def letN (i : Nat) : Nat := ([116, 97, 108, 108, 111, 119, 119, 97, 120, 98, 101, 101, 115, 116, 104, 105, 101, 102, 102, 105, 114, 115, 116, 108, 111, 110, 103, 115, 104, 111, 114, 116, 98, 97, 114, 101, 99, 97, 115, 101, 100, 114, 97, 117, 103, 104, 116, 100, 111, 99, 107, 101, 116] : List Nat).getD i 0
def lenN (k : Nat) : Nat := cutN (k + 1) - cutN k
theorem cut_e : ∀ k, k < 12 → u0M.2 4 k = nI (cutN k) := by decide +kernel
theorem let_e : ∀ i, i < 53 → u0M.2 5 i = nI (letN i) := by decide +kernel
theorem cut_b : ∀ k, k < 11 → cutN k + lenN k ≤ 53 ∧ 3 ≤ lenN k ∧ lenN k ≤ 7 ∧ cutN (k + 1) = cutN k + lenN k := by decide +kernel
theorem let_b : ∀ i, i < 53 → letN i ≤ 122 := by decide +kernel
/-- the class's constants are the reference's names in another order -/
def xm (x : Nat) : Nat := ([8, 0, 1, 2, 3, 9, 10, 4, 5, 6, 7] : List Nat).getD x 0
theorem xm_b : ∀ x, x < 11 → xm x < 11 := by decide +kernel
theorem len_ok : ∀ x, x < 11 → (Int32.ofNat (lenS.getD x 0)) >>> ((0 : Int32) &&& 31) = nI (lenN (xm x)) ∧ lenS.getD x 0 = lenN (xm x) := by decide +kernel
theorem ch_ok : ∀ x, x < 11 → ∀ i, i < 7 → i < lenN (xm x) → (¬ nI i < 0) ∧ (nI i < Int32.ofNat (lenS.getD x 0)) ∧ inb (nI i) (lenS.getD x 0) = true ∧ (UInt32.toInt32 (Int32.toUInt32 (((bytS.getD x []).getD (Int32.toNatClampNeg (nI i)) 0) &&& 255) % 65536)) = nI (letN (cutN (xm x) + i)) ∧ c16 (nI (letN (cutN (xm x) + i))) = true := by decide +kernel
theorem X_len (F : Nat) {x : Nat} (hx : x < 11) (u : St) : pJ0_length_8abf5 F x u = some (nI (lenN (xm x)), u) := by
  unfold pJ0_length_8abf5 pJ0_coder_7d493
  rw [bd_s, (len_ok x hx).1]
theorem X_char (F : Nat) {x i : Nat} (hx : x < 11) (hi : i < 7) (hi2 : i < lenN (xm x)) (u : St) : pJ0_charAt_5068e F x (nI i) u = some (nI (letN (cutN (xm x) + i)), u) := by
  obtain ⟨c1, c2, c3, c4, c5⟩ := ch_ok x hx i hi hi2
  unfold pJ0_charAt_5068e pJ0_isLatin1_aae02 pJ1_charAt_3b067 pJ0_checkIndex_df160 pJ3_checkIndex_8e157
  rw [bd_s, i10, if_neg c1, if_pos c2, bd_s, bd_s, c3, gd_true, c4, c5, gd_true, bd_s, c5, gd_true]
def nmd (b : Nat → Nat) (p e t k : Nat) : Bool := decide (t = 1) && (decide (e - p = lenN k) && al (fun i => decide (b (p + i) = letN (cutN k + i))) (e - p))
theorem X_named (F : Nat) (hF : 200 ≤ F) {b : Nat → Nat} {n t p e vl x : Nat} (u v : St) (hT : TpX b n u) (hK : Tok b n t p e vl u v) (hx : x < 11) : pX2_isNamed F x u = some (if nmd b p e t (xm x) = true then 1 else 0, u) := by
  obtain ⟨n1, n2, n3⟩ := hT
  obtain ⟨k1, k2, k3, k4, k5, k20, k21, k22, -⟩ := hK
  obtain ⟨c1, c2, c3, c4⟩ := cut_b _ (xm_b x hx)
  unfold pX2_isNamed nmd
  rw [k20, L1, ifeq (by omega) (by omega)]
  by_cases ht : t = 1
  · rw [if_pos ht, decide_eq_true ht, Bool.true_and, X_len F hx, bd_s, k22, k21, subI (by omega), ifeq (by omega) (by omega)]
    by_cases hl : e - p = lenN (xm x)
    · rw [if_pos hl, decide_eq_true hl, Bool.true_and]
      refine lq1_up (n := e - p) (I := fun i w => w = u ∧ ∀ j, j < i → decide (b (p + j) = letN (cutN (xm x) + j)) = true) (Q := fun o => o = some (if al (fun i => decide (b (p + i) = letN (cutN (xm x) + i))) (e - p) = true then nI 1 else 0, u)) ?_ ?_ (e - p) 0 F u (by omega) (by omega) ⟨rfl, fun j hj => by omega⟩
      · rintro g w ⟨rfl, h1⟩
        unfold bX2_isNamed_28
        rw [X_len F hx, bd_s, if_pos (yle (by omega) (by omega)), if_pos (al_i h1)]
        rfl
      · rintro g i w hi ⟨rfl, h1⟩
        obtain ⟨b1, b2⟩ := n3 (p + i) (by omega)
        have lb := let_b (cutN (xm x) + i) (by omega)
        have hrun : bX2_isNamed_28 F x g (nI i) w = if b (p + i) = letN (cutN (xm x) + i) then g (nI (i + 1)) w else some (0, w) := by
          unfold bX2_isNamed_28
          rw [X_len F hx, bd_s, if_neg (nle (by omega) (by omega)), k21, nI_add, if_neg (show ¬ (160 : Int32) ≤ nI (p + i) from by rw [L160]; exact nle (by omega) (by omega)), gd_i (by omega) (by omega), X_char F hx (by omega) (by omega), bd_s, cl (by omega), b2, ifeq (by omega) (by omega), nI_s]
        by_cases q : b (p + i) = letN (cutN (xm x) + i)
        · refine Or.inr ⟨w, by rw [hrun, if_pos q], rfl, fun j hj => ?_⟩
          by_cases z : j = i
          · rw [z]; exact decide_eq_true q
          · exact h1 j (by omega)
        · refine Or.inl ?_
          rw [hrun, if_neg q, al_f hi (decide_eq_false q), if_neg (by decide)]
    · rw [if_neg hl, decide_eq_false hl, Bool.false_and, if_neg (by decide)]
  · rw [if_neg ht, decide_eq_false ht, Bool.false_and, if_neg (by decide)]
theorem M_name (F : Nat) (hF : 200 ≤ F) {b : Nat → Nat} {n t p e vl : Nat} (u v : St) (hT : TpM b n v) (hK : Tok b n t p e vl u v) : ∃ r, pX7_nameHere F v = some (r, v) ∧ FF (fun k => nmd b p e t k) 11 r := by
  have hT' := hT
  obtain ⟨n1, n2, n3, n4, n5⟩ := hT
  obtain ⟨k1, k2, k3, k4, k5, -, -, -, -, k13, k12, k11, -, -⟩ := hK
  unfold pX7_nameHere
  refine lq1_up (n := 11) (I := fun i w => w = v ∧ ∀ j, j < i → nmd b p e t j = false) (Q := fun o => ∃ r : Int32, o = some (r, v) ∧ FF (fun k => nmd b p e t k) 11 r) ?_ ?_ 11 0 F v (by omega) (by omega) ⟨rfl, fun j hj => by omega⟩
  · rintro g w ⟨rfl, h1⟩
    refine ⟨-4, ?_, Or.inr ⟨h1, rfl⟩⟩
    unfold bX7_nameHere_2
    rw [if_pos (show (11 : Int32) ≤ nI 11 by decide)]
  · rintro g i w hi ⟨rfl, h1⟩
    obtain ⟨c1, c2, c3, c4⟩ := cut_b i hi
    by_cases ht : t = 1
    · have hrun : bX7_nameHere_2 F g (nI i) w = if nmd b p e t i = true then some (nI i, w) else g (nI (i + 1)) w := by
        have inner : ∀ a4 : Int32, (a4 = if e - p = lenN i then 1 else 0) → lq2 (bX7_nameHere_51 F (nI i) (jX7_nameHere_106 F (nI i) g)) F a4 0 w = jX7_nameHere_106 F (nI i) g (if nmd b p e t i = true then 1 else 0) w := fun a4 ha => by
          unfold nmd
          rw [decide_eq_true ht, Bool.true_and]
          by_cases hl : e - p = lenN i
          · rw [if_pos hl] at ha
            subst ha
            rw [decide_eq_true hl, Bool.true_and]
            refine lq2_up (n := e - p) (I := fun x y z => z = w ∧ y = if al (fun i' => decide (b (p + i') = letN (cutN i + i'))) x = true then 1 else 0) (Q := fun o => o = jX7_nameHere_106 F (nI i) g (if al (fun i' => decide (b (p + i') = letN (cutN i + i'))) (e - p) = true then 1 else 0) w) ?_ ?_ (e - p) 0 F 1 w (by omega) (by omega) ⟨rfl, rfl⟩
            · rintro g' y z ⟨rfl, rfl⟩
              unfold bX7_nameHere_51
              rw [k11, k12, subI (by omega), if_pos (yle (Nat.le_refl _) (by omega))]
              cases al (fun i' => decide (b (p + i') = letN (cutN i + i'))) (e - p)
              · rw [if_pos (by decide)]
              · rw [if_pos rfl, if_neg (by decide)]
            · rintro g' x y z hx ⟨rfl, rfl⟩
              have lb := let_b (cutN i + x) (by omega)
              have b1 := (n3 (p + x) (by omega)).1
              rcases hq : al (fun i' => decide (b (p + i') = letN (cutN i + i'))) x with _ | _
              · refine Or.inl ?_
                have e0 : al (fun i' => decide (b (p + i') = letN (cutN i + i'))) (e - p) = false := by
                  rcases hq2 : al (fun i' => decide (b (p + i') = letN (cutN i + i'))) (e - p) with _ | _
                  · rfl
                  · rw [al_i (fun j hj => al_t hq2 j (by omega))] at hq
                    exact absurd hq (by decide)
                unfold bX7_nameHere_51
                rw [e0, if_neg (show ¬ false = true by decide), if_pos rfl]
              · refine Or.inr ⟨if b (p + x) = letN (cutN i + x) then 1 else 0, z, ?_, rfl, ?_⟩
                · unfold bX7_nameHere_51
                  rw [if_pos rfl, if_neg (show ¬ (1 : Int32) = 0 by decide), k11, k12, subI (by omega), if_neg (nle hx (by omega)), nI_add, M_byte F z hT' (by omega), bd_s, gd_i (by omega) (by omega), cl (by omega), n4, cut_e i (by omega), nI_add, gd_i (by omega) (by omega), cl (by omega), n5, let_e _ (by omega)]
                  simp only [jn_e, nI_s]
                  rw [ifeq (by omega) (by omega)]
                  by_cases q : b (p + x) = letN (cutN i + x)
                  · rw [if_pos q, if_pos q]
                  · rw [if_neg q, if_neg q]
                · unfold al
                  rw [hq, Bool.true_and]
                  by_cases q : b (p + x) = letN (cutN i + x)
                  · rw [if_pos q, if_pos (decide_eq_true q)]
                  · rw [if_neg q, if_neg (by rw [decide_eq_false q]; decide)]
          · rw [if_neg hl] at ha
            subst ha
            rw [decide_eq_false hl, Bool.false_and, if_neg (show ¬ false = true by decide)]
            obtain ⟨f, hf⟩ : ∃ f, F = f + 1 := ⟨F - 1, by omega⟩
            generalize hg : lq2 (bX7_nameHere_51 F (nI i) (jX7_nameHere_106 F (nI i) g)) F = G
            have hg' : G = lq2 (bX7_nameHere_51 F (nI i) (jX7_nameHere_106 F (nI i) g)) (f + 1) := by rw [← hg]; exact congrArg _ hf
            rw [hg', lq2_s]
            unfold bX7_nameHere_51
            rw [if_pos rfl]
        unfold bX7_nameHere_2
        rw [if_neg (show ¬ (11 : Int32) ≤ nI i from by rw [L11]; exact nle hi (by omega)), k13, if_pos (show nI t = 1 by rw [ht]; rfl), nI_s, gd_i (by omega) (by omega), gd_i (by omega) (by omega), cl (by omega), cl (by omega), n4, cut_e i (by omega), cut_e (i + 1) (by omega), c4, subI (by omega), k11, k12, subI (by omega), show cutN i + lenN i - cutN i = lenN i by omega]
        simp only [jn_e]
        rw [ifeq (by omega) (by omega)]
        have e1 : (if e - p = lenN i then lq2 (bX7_nameHere_51 F (nI i) (jX7_nameHere_106 F (nI i) g)) F 1 0 w else lq2 (bX7_nameHere_51 F (nI i) (jX7_nameHere_106 F (nI i) g)) F 0 0 w) = jX7_nameHere_106 F (nI i) g (if nmd b p e t i = true then 1 else 0) w := by
          by_cases hl : e - p = lenN i
          · rw [if_pos hl, inner 1 (by rw [if_pos hl])]
          · rw [if_neg hl, inner 0 (by rw [if_neg hl])]
        rw [e1]
        unfold jX7_nameHere_106
        rw [nI_s]
        by_cases q : nmd b p e t i = true
        · rw [if_pos q, if_pos q, if_neg (by decide)]
        · rw [if_neg q, if_neg q, if_pos rfl]
      by_cases q : nmd b p e t i = true
      · exact Or.inl ⟨nI i, by rw [hrun, if_pos q], Or.inl ⟨i, hi, q, h1, rfl⟩⟩
      · refine Or.inr ⟨w, by rw [hrun, if_neg q], rfl, fun j hj => ?_⟩
        by_cases z : j = i
        · rw [z]; exact Bool.eq_false_iff.mpr q
        · exact h1 j (by omega)
    · refine Or.inl ⟨-4, ?_, Or.inr ⟨fun m hm => by show nmd b p e t m = false; unfold nmd; rw [decide_eq_false ht, Bool.false_and], rfl⟩⟩
      unfold bX7_nameHere_2
      rw [if_neg (show ¬ (11 : Int32) ≤ nI i from by rw [L11]; exact nle hi (by omega)), k13, if_neg (show ¬ nI t = 1 from by rw [L1]; exact neI ht (by omega) (by omega))]
theorem nm_d : ∀ i, i < 11 → ∀ j, j < 11 → lenN i = lenN j → (∀ x, x < 7 → x < lenN i → letN (cutN i + x) = letN (cutN j + x)) → i = j := by decide +kernel
theorem nm_un {b : Nat → Nat} {p e t i j : Nat} (hi : i < 11) (hj : j < 11) (h1 : nmd b p e t i = true) (h2 : nmd b p e t j = true) : i = j := by
  unfold nmd at h1 h2
  rw [Bool.and_eq_true, Bool.and_eq_true] at h1 h2
  have l1 := of_decide_eq_true h1.2.1
  have l2 := of_decide_eq_true h2.2.1
  refine nm_d i hi j hj (by omega) (fun x _ hx => ?_)
  have a1 := of_decide_eq_true (al_t h1.2.2 x (by omega))
  have a2 := of_decide_eq_true (al_t h2.2.2 x (by omega))
  omega
/-- the name that stands here -/
theorem M_name2 (F : Nat) (hF : 200 ≤ F) {b : Nat → Nat} {n t p e vl : Nat} (u v : St) (hT : TpM b n v) (hK : Tok b n t p e vl u v) : (∃ k, k < 11 ∧ (∀ j, j < 11 → nmd b p e t j = decide (j = k)) ∧ pX7_nameHere F v = some (nI k, v)) ∨ ((∀ j, j < 11 → nmd b p e t j = false) ∧ pX7_nameHere F v = some (-4, v)) := by
  obtain ⟨r, r1, r2⟩ := M_name F hF u v hT hK
  rcases r2 with ⟨k, k1, k2, -, rfl⟩ | ⟨k1, rfl⟩
  · refine Or.inl ⟨k, k1, fun j hj => ?_, r1⟩
    by_cases z : j = k
    · rw [z, decide_eq_true rfl]; exact k2
    · rw [decide_eq_false z]
      rcases hq : nmd b p e t j with _ | _
      · rfl
      · exact absurd (nm_un hj k1 hq k2) z
  · exact Or.inr ⟨k1, r1⟩
