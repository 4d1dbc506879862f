/-! PURE: ask -/
def kc (q : Nat → Bool) (V : Nat → Nat) (r : Nat) : Nat := cn (fun b => q b && decide (V b = r)) 4
def xmx (q : Nat → Bool) (V : Nat → Nat) : Nat → Nat
  | 0 => 0
  | i + 1 => if xmx q V i < kc q V (i + 1) then kc q V (i + 1) else xmx q V i
def mka (q : Nat → Bool) (V : Nat → Nat) (a : Nat) : Nat := if q a = true then cn (fun b => q b && decide (V a = V b)) 4 else 0
def mmx (q : Nat → Bool) (V : Nat → Nat) : Nat → Nat
  | 0 => 0
  | a + 1 => if mka q V a ≤ mmx q V a then mmx q V a else mka q V a
/-- functions of four values -/
def f4 {α : Type} (a b c d : α) (i : Nat) : α := if i = 0 then a else if i = 1 then b else if i = 2 then c else d
theorem xm_mm4 : ∀ (b0 b1 b2 b3 : Bool) (v0 v1 v2 v3 : Fin 3), xmx (f4 b0 b1 b2 b3) (f4 (v0.val + 1) (v1.val + 1) (v2.val + 1) (v3.val + 1)) 3 = mmx (f4 b0 b1 b2 b3) (f4 (v0.val + 1) (v1.val + 1) (v2.val + 1) (v3.val + 1)) 4 := by decide +kernel
theorem kc_c {q q' : Nat → Bool} {V V' : Nat → Nat} (hq : ∀ i, i < 4 → q i = q' i) (hV : ∀ i, i < 4 → V i = V' i) (r : Nat) : kc q V r = kc q' V' r := cn_c 4 (fun i hi => by show (q i && decide (V i = r)) = (q' i && decide (V' i = r)); rw [hq i hi, hV i hi])
theorem xmx_c {q q' : Nat → Bool} {V V' : Nat → Nat} (hq : ∀ i, i < 4 → q i = q' i) (hV : ∀ i, i < 4 → V i = V' i) : ∀ n, xmx q V n = xmx q' V' n
  | 0 => rfl
  | n + 1 => by
    unfold xmx
    rw [xmx_c hq hV n, kc_c hq hV]
theorem mmx_c {q q' : Nat → Bool} {V V' : Nat → Nat} (hq : ∀ i, i < 4 → q i = q' i) (hV : ∀ i, i < 4 → V i = V' i) : ∀ n, n ≤ 4 → mmx q V n = mmx q' V' n
  | 0, _ => rfl
  | n + 1, h => by
    have e : mka q V n = mka q' V' n := by
      unfold mka
      rw [hq n (by omega), cn_c 4 (fun i hi => by show (q i && decide (V n = V i)) = (q' i && decide (V' n = V' i)); rw [hq i hi, hV i hi, hV n (by omega)])]
    unfold mmx
    rw [mmx_c hq hV n (by omega), e]
theorem f4_e {α : Type} (f : Nat → α) : ∀ i, i < 4 → f i = f4 (f 0) (f 1) (f 2) (f 3) i
  | 0, _ => rfl
  | 1, _ => rfl
  | 2, _ => rfl
  | 3, _ => rfl
  | n + 4, h => by omega
theorem xm_mm (q : Nat → Bool) (V : Nat → Nat) (hV : ∀ i, i < 4 → 1 ≤ V i ∧ V i ≤ 3) : xmx q V 3 = mmx q V 4 := by
  have h0 := hV 0 (by omega)
  have h1 := hV 1 (by omega)
  have h2 := hV 2 (by omega)
  have h3 := hV 3 (by omega)
  have e := xm_mm4 (q 0) (q 1) (q 2) (q 3) ⟨V 0 - 1, by omega⟩ ⟨V 1 - 1, by omega⟩ ⟨V 2 - 1, by omega⟩ ⟨V 3 - 1, by omega⟩
  simp only [Nat.sub_add_cancel h0.1, Nat.sub_add_cancel h1.1, Nat.sub_add_cancel h2.1, Nat.sub_add_cancel h3.1] at e
  rw [xmx_c (f4_e q) (f4_e V) 3, e, mmx_c (f4_e q) (f4_e V) 4 (Nat.le_refl _)]
theorem kc_le (q : Nat → Bool) (V : Nat → Nat) (r : Nat) : kc q V r ≤ 4 := cn_le _ 4
theorem xmx_le (q : Nat → Bool) (V : Nat → Nat) : ∀ n, xmx q V n ≤ 4
  | 0 => by unfold xmx; omega
  | n + 1 => by
    have h1 := xmx_le q V n
    have h2 := kc_le q V (n + 1)
    unfold xmx
    split <;> omega
theorem mka_le (q : Nat → Bool) (V : Nat → Nat) (a : Nat) : mka q V a ≤ 4 := by
  unfold mka
  split
  · exact cn_le _ 4
  · omega
theorem mmx_le (q : Nat → Bool) (V : Nat → Nat) : ∀ n, mmx q V n ≤ 4
  | 0 => by unfold mmx; omega
  | n + 1 => by
    have h1 := mmx_le q V n
    have h2 := mka_le q V n
    unfold mmx
    split <;> omega
theorem bN_t (q : Nat → Bool) : ∀ i, i < 4 → (bN q 4).testBit i = q i
  | 0, _ => by
    simp only [bN]
    cases q 0 <;> cases q 1 <;> cases q 2 <;> cases q 3 <;> decide
  | 1, _ => by
    simp only [bN]
    cases q 0 <;> cases q 1 <;> cases q 2 <;> cases q 3 <;> decide
  | 2, _ => by
    simp only [bN]
    cases q 0 <;> cases q 1 <;> cases q 2 <;> cases q 3 <;> decide
  | 3, _ => by
    simp only [bN]
    cases q 0 <;> cases q 1 <;> cases q 2 <;> cases q 3 <;> decide
  | n + 4, h => by omega
theorem bit_0 (q : Nat → Bool) {i : Nat} (hi : i < 4) : (((bI q 4 >>> (nI i &&& 31)) &&& 1) = 0) = (q i = false) := by
  obtain ⟨k1, k2, -⟩ := bI_k q 4 (Nat.le_refl _)
  rw [k1, propext (sh_b0 (bN q 4) k2 i hi), bN_t q i hi]
theorem bit_1 (q : Nat → Bool) {i : Nat} (hi : i < 4) : (((bI q 4 >>> (nI i &&& 31)) &&& 1) = 1) = (q i = true) := by
  obtain ⟨k1, k2, -⟩ := bI_k q 4 (Nat.le_refl _)
  rw [k1, propext (sh_b1 (bN q 4) k2 i hi), bN_t q i hi]
/-- the verdict were the judge of a habit -/
def vH (P : Nat → Nat) (cc j hb : Nat) : Nat := (hP (pu P (40 + j) hb) (stg P 0 (P 46)) cc j).1
theorem hb_ok {c jn j hb : Nat} {P : Nat → Nat} (h : PgOK c jn P) (hc : c ≤ 4) (hj : jn ≤ 3) (hjj : j < jn) (h1 : hb < 4) : PgOK c jn (pu P (40 + j) hb) := h.put hc hj (by omega) (by omega) (by omega) (by omega) (by omega) (by omega) (by omega) (by omega) (by omega)
theorem X_worst (F : Nat) (hF : 80 ≤ F) {c jn j cc : Nat} {P : Nat → Nat} (q : Nat → Bool) (u : St) (hc4 : c ≤ 4) (hj3 : jn ≤ 3) (hPg : PgOK c jn P) (hX : CtX 0 c jn P u) (hcc : cc < c) (hjj : j < jn) : ∃ u', pX6_leftAtTheWorst F (nI cc) (nI j) (bI q 4) u = some (nI (xmx q (vH P cc j) 3), u') ∧ eqT u u' := by
  unfold pX6_leftAtTheWorst
  refine lq2_up (n := 4) (I := fun i x w => 1 ≤ i ∧ x = nI (xmx q (vH P cc j) (i - 1)) ∧ eqT u w) (Q := fun o => ∃ u' : St, o = some (nI (xmx q (vH P cc j) 3), u') ∧ eqT u u') ?_ ?_ 3 1 F 0 u (by omega) (by omega) ⟨Nat.le_refl _, rfl, eqT.rf⟩
  · rintro g x w ⟨-, rfl, hw⟩
    refine ⟨w, ?_, hw⟩
    unfold bX6_leftAtTheWorst_6
    rw [if_pos (show (3 : Int32) < nI 4 by decide)]
  · rintro g r x w hr ⟨h1, rfl, hw⟩
    have inner : ∀ J : Int32 → St → Option (Int32 × St), ∃ y, lq2 (bX6_leftAtTheWorst_18 F (nI cc) (nI j) (bI q 4) (nI r) J) F 0 0 w = J (nI (kc q (vH P cc j) r)) y ∧ eqT u y := fun J => by
      refine lq2_up (n := 4) (I := fun i x y => x = nI (cn (fun b => q b && decide (vH P cc j b = r)) i) ∧ eqT u y) (Q := fun o => ∃ y : St, o = J (nI (kc q (vH P cc j) r)) y ∧ eqT u y) ?_ ?_ 4 0 F 0 w (by omega) (by omega) ⟨rfl, hw⟩
      · rintro g' x y ⟨rfl, hy⟩
        refine ⟨y, ?_, hy⟩
        unfold bX6_leftAtTheWorst_18
        rw [if_pos (show (4 : Int32) ≤ nI 4 by decide)]
        rfl
      · rintro g' i x y hi ⟨rfl, hy⟩
        obtain ⟨z, z1, z2, z3⟩ := X_prepP F (by omega) y hc4 hj3 hPg (hX.eq (by omega) hy.x) hcc hjj (aw := 0) (by omega)
        have z1' : pX5_prepare F (nI cc) (nI j) 0 y = some ((), z) := z1
        have hz : eqT z (stf z 24 (nI i)) := ⟨fun k hk => by rw [stf_1, if_neg (by omega)], fun k hk => rfl⟩
        have ez := (hy.tr z3).tr hz
        have pre : bX6_leftAtTheWorst_18 F (nI cc) (nI j) (bI q 4) (nI r) J g' (nI (cn (fun b => q b && decide (vH P cc j b = r)) i)) (nI i) y = if q i = false then g' (nI (cn (fun b => q b && decide (vH P cc j b = r)) i) + 0) (nI (i + 1)) (stf z 24 (nI i)) else bd (pX5_verdictHeld F (stf z 24 (nI i))) (fun (r19 : Int32) (u18 : St) => if r19 = nI r then g' (nI (cn (fun b => q b && decide (vH P cc j b = r)) i) + 1) (nI (i + 1)) u18 else g' (nI (cn (fun b => q b && decide (vH P cc j b = r)) i) + 0) (nI (i + 1)) u18) := by
          unfold bX6_leftAtTheWorst_18 pX6_prepare
          rw [if_neg (show ¬ (4 : Int32) ≤ nI i from by rw [L4]; exact nle hi (by omega)), z1']
          simp only [bd_s, vl_e, jn_e, nI_s, bit_0 q hi]
        by_cases hq : q i = true
        · have t2 : TP (pu P (40 + j) i) (stg P 0 (P 46)) cc j (stf z 24 (nI i)) := by
            obtain ⟨t1, t2, t3, t4, t5, t6⟩ := z2
            refine ⟨?_, ?_, ?_, t4, ?_, ?_⟩
            · rw [pu_n _ (by omega), pu_n _ (by omega)]; exact t1
            · rw [pu_n _ (by omega), pu_n _ (by omega)]; exact t2
            · rw [pu_n _ (by omega), pu_n _ (by omega)]; exact t3
            · rw [pu_s, stf_1, if_pos rfl]
            · rw [pu_n _ (by omega), stf_1, if_neg (by omega)]; exact t6
          have hk := hb_ok hPg hc4 hj3 hjj hi
          obtain ⟨t, t1, -, t3⟩ := X_heldP F (by omega) _ hk hcc hjj (fun m => stg_lt hPg 0 m) t2
          have hbd := hP_bd hk (stg P 0 (P 46)) hcc hjj
          refine Or.inr ⟨nI (cn (fun b => q b && decide (vH P cc j b = r)) (i + 1)), t, ?_, rfl, ez.tr t3⟩
          rw [pre, if_neg (by rw [hq]; decide), t1, bd_s, ifeq (by omega) (by omega), cn, hq, Bool.true_and]
          by_cases z : (hP (pu P (40 + j) i) (stg P 0 (P 46)) cc j).1 = r
          · rw [if_pos z, if_pos (show decide (vH P cc j i = r) = true from decide_eq_true z), nI_s]
          · rw [if_neg z, if_neg (show ¬ decide (vH P cc j i = r) = true from by rw [show decide (vH P cc j i = r) = false from decide_eq_false z]; decide), L0, nI_add]
        · have hq' := Bool.eq_false_iff.mpr hq
          refine Or.inr ⟨nI (cn (fun b => q b && decide (vH P cc j b = r)) (i + 1)), _, ?_, rfl, ez⟩
          rw [pre, if_pos hq', cn, hq', Bool.false_and, if_neg (by decide), L0, nI_add]
    obtain ⟨y, y1, y2⟩ := inner (jX6_leftAtTheWorst_77 F (nI (xmx q (vH P cc j) (r - 1))) (nI r) g)
    have b1 := kc_le q (vH P cc j) r
    have b2 := xmx_le q (vH P cc j) (r - 1)
    refine Or.inr ⟨nI (xmx q (vH P cc j) (r + 1 - 1)), y, ?_, by omega, rfl, y2⟩
    unfold bX6_leftAtTheWorst_6
    rw [if_neg (show ¬ (3 : Int32) < nI r from by rw [L3]; exact nlt (by omega) (by omega)), jn_e, y1]
    unfold jX6_leftAtTheWorst_77
    rw [vl_e, nI_s, iflt (by omega) (by omega), show r + 1 - 1 = (r - 1) + 1 by omega, xmx, show r - 1 + 1 = r by omega]
    by_cases z : xmx q (vH P cc j) (r - 1) < kc q (vH P cc j) r
    · rw [if_pos z, if_pos z]
    · rw [if_neg z, if_neg z]
theorem M_worst (F : Nat) (hF : 80 ≤ F) {c j cc : Nat} {P : Nat → Nat} (q : Nat → Bool) (v : St) (J : Int32 → St → Option (Int32 × St)) (hc4 : c ≤ 4) (hcc : cc < c) (ht : ∀ hb, hb < 4 → v.2 8 (4 * hb + cc) = nI (vH P cc j hb)) (hV : ∀ i, i < 4 → vH P cc j i ≤ 3) : lq2 (bX7_ask_54 F (bI q 4) (nI cc) J) F 0 0 v = J (nI (mmx q (vH P cc j) 4)) v := by
  have inner : ∀ (a : Nat) (J : Int32 → St → Option (Int32 × St)), a < 4 → lq2 (bX7_ask_66 F (bI q 4) (nI cc) (nI a) J) F 0 0 v = J (nI (mka q (vH P cc j) a)) v := fun a J ha => by
    by_cases hq : q a = true
    · have em : mka q (vH P cc j) a = cn (fun b => q b && decide (vH P cc j a = vH P cc j b)) 4 := by
        unfold mka
        rw [if_pos hq]
      rw [em]
      refine lq2_up (n := 4) (I := fun i x w => x = nI (cn (fun b => q b && decide (vH P cc j a = vH P cc j b)) i) ∧ w = v) (Q := fun o => o = J (nI (cn (fun b => q b && decide (vH P cc j a = vH P cc j b)) 4)) v) ?_ ?_ 4 0 F 0 v (by omega) (by omega) ⟨rfl, rfl⟩
      · rintro g x w ⟨rfl, rfl⟩
        unfold bX7_ask_66
        rw [if_pos (show (4 : Int32) ≤ nI 4 by decide)]
      · rintro g i x w hi ⟨rfl, rfl⟩
        refine Or.inr ⟨nI (cn (fun b => q b && decide (vH P cc j a = vH P cc j b)) (i + 1)), w, ?_, rfl, rfl⟩
        have b1 := hV a ha
        have b2 := hV i hi
        unfold bX7_ask_66
        rw [if_neg (show ¬ (4 : Int32) ≤ nI i from by rw [L4]; exact nle hi (by omega))]
        simp only [jn_e, vl_e, bit_1 q ha, bit_1 q hi, nI_s, tm4, nI_add]
        rw [if_pos hq, gd_i (by omega) (by omega), gd_i (by omega) (by omega), cl (by omega), cl (by omega), ht a ha, ht i hi, ifeq (by omega) (by omega), cn]
        by_cases hi' : q i = true
        · rw [if_pos hi', hi', Bool.true_and]
          by_cases z : vH P cc j a = vH P cc j i
          · rw [if_pos z, if_pos (decide_eq_true z)]
          · rw [if_neg z, if_neg (by rw [decide_eq_false z]; decide), L0, nI_add]
        · rw [if_neg hi', Bool.eq_false_iff.mpr hi', Bool.false_and, if_neg (by decide), L0, nI_add]
    · have em : mka q (vH P cc j) a = 0 := by
        unfold mka
        rw [if_neg hq]
      rw [em]
      obtain ⟨f, hf⟩ : ∃ f, F = f + 1 := ⟨F - 1, by omega⟩
      generalize hg : lq2 (bX7_ask_66 F (bI q 4) (nI cc) (nI a) J) F = G
      have hg' : G = lq2 (bX7_ask_66 F (bI q 4) (nI cc) (nI a) J) (f + 1) := by rw [← hg]; exact congrArg _ hf
      rw [hg', lq2_s]
      unfold bX7_ask_66
      rw [if_neg (show ¬ (4 : Int32) ≤ 0 by decide), if_neg (show ¬ (((bI q 4 >>> (nI a &&& 31)) &&& 1) = 1) from by rw [bit_1 q ha]; exact hq)]
      rfl
  refine lq2_up (n := 4) (I := fun i x w => x = nI (mmx q (vH P cc j) i) ∧ w = v) (Q := fun o => o = J (nI (mmx q (vH P cc j) 4)) v) ?_ ?_ 4 0 F 0 v (by omega) (by omega) ⟨rfl, rfl⟩
  · rintro g x w ⟨rfl, rfl⟩
    unfold bX7_ask_54
    rw [if_pos (show (4 : Int32) ≤ nI 4 by decide)]
  · rintro g i x w hi ⟨rfl, rfl⟩
    refine Or.inr ⟨nI (mmx q (vH P cc j) (i + 1)), w, ?_, rfl, rfl⟩
    have b1 := mka_le q (vH P cc j) i
    have b2 := mmx_le q (vH P cc j) i
    unfold bX7_ask_54
    rw [if_neg (show ¬ (4 : Int32) ≤ nI i from by rw [L4]; exact nle hi (by omega)), jn_e, inner i _ hi]
    unfold jX7_ask_135
    simp only [jn_e, nI_s]
    rw [ifle (by omega) (by omega), mmx]
    by_cases z : mka q (vH P cc j) i ≤ mmx q (vH P cc j) i
    · rw [if_pos z, if_pos z]
    · rw [if_neg z, if_neg z]
def akO (q : Nat → Bool) (W : Nat → Nat) : Nat → Nat × Int32
  | 0 => (cn q 4, -4)
  | i + 1 => if (akO q W i).1 ≤ W i then akO q W i else (W i, nI i)
theorem akO_le (q : Nat → Bool) {W : Nat → Nat} (hW : ∀ i, W i ≤ 4) : ∀ n, (akO q W n).1 ≤ 4
  | 0 => cn_le _ 4
  | n + 1 => by
    unfold akO
    split
    · exact akO_le q hW n
    · exact hW n
theorem st_ask (F : Nat) (hLF : 200 ≤ F) {u v : St} (h : RR u v) (x0 x1 : Int32) : ∃ (r : Int32) (u' v' : St), pX6_ask F x0 x1 u = some (r, u') ∧ pX7_ask F x0 x1 v = some (r, v') ∧ RR u' v' := by
  obtain ⟨c, jn, P, ⟨c1, c2, c3, hX, c5, c6, c7⟩, i0, i1, hs, ht, hw, htn, hsh, hc⟩ := id h
  obtain ⟨n, A, B, D, n1, n2, n3, n4⟩ := hs.fn c1 c2
  unfold pX6_ask pX7_ask
  rcases two_judge x0 c2 hX.2.1 c6 with ⟨b, b1, rfl, k, k'⟩ | ⟨k, k'⟩
  · rcases rng x1 (a0 := 0) (b0 := 1) (a1 := 0) (b1 := 1) 0 1 rfl rfl rfl rfl (by omega) (by omega) with ⟨d, d1, d2, rfl, t, t'⟩ | ⟨-, t, t'⟩
    · obtain ⟨u1, g1, g2⟩ := X_habits F (by omega) (A := A) (B := B) (D := D) u c1 c2 c3 hX b1 n1 n2 (fun i hi => by
        obtain ⟨a1, a2, a3, a4, a5, a6, a7, -⟩ := n4 i hi
        exact ⟨a1, a2, a3, a4, a5, a6, a7⟩)
      obtain ⟨v1, m1, m2, m3⟩ := M_habits F (by omega) (A := A) (B := B) (D := D) v c1 c2 c3 c7 (menv0 hc) c5 b1 n1 n3 (fun i hi => by
        obtain ⟨a1, a2, a3, a4, -, -, -, a5, a6, a7⟩ := n4 i hi
        exact ⟨a1, a2, a3, a4, a5, a6, a7⟩)
      generalize hbq P A B D n b = q at g1 m1
      obtain ⟨W, hW⟩ : ∃ W : Nat → Nat, W = fun cc => xmx q (vH P cc b) 3 := ⟨_, rfl⟩
      have hW4 : ∀ i, W i ≤ 4 := fun i => by rw [hW]; exact xmx_le _ _ _
      have hVb : ∀ cc, cc < c → ∀ i, i < 4 → 1 ≤ vH P cc b i ∧ vH P cc b i ≤ 3 := fun cc hcc i hi => by
        have := hP_bd (hb_ok c3 c1 c2 b1 hi) (stg P 0 (P 46)) hcc b1
        exact ⟨this.1, this.2.1⟩
      have e0 : v1.1 0 = nI c := m3.2.1.1.trans c5
      have pX : ∃ u', lq3 (bX6_ask_42 F (nI b) (bI q 4) (jX6_ask_85 F (nI d))) F (nI (cn q 4)) (-4) 0 u1 = jX6_ask_85 F (nI d) (nI (akO q W c).1) (akO q W c).2 u' ∧ eqT u u' := by
        refine lq3_up (n := c) (I := fun i x y w => x = nI (akO q W i).1 ∧ y = (akO q W i).2 ∧ eqT u w) (Q := fun o => ∃ u' : St, o = jX6_ask_85 F (nI d) (nI (akO q W c).1) (akO q W c).2 u' ∧ eqT u u') ?_ ?_ c 0 F _ _ u1 (by omega) (by omega) ⟨rfl, rfl, g2⟩
        · rintro g x y w ⟨rfl, rfl, hw'⟩
          refine ⟨w, ?_, hw'⟩
          have e : w.1 0 = nI c := (hw'.1 0 (by omega)).trans hX.1
          unfold bX6_ask_42
          rw [e, if_pos (yle (Nat.le_refl _) (by omega))]
        · rintro g i x y w hi ⟨rfl, rfl, hw'⟩
          have e : w.1 0 = nI c := (hw'.1 0 (by omega)).trans hX.1
          obtain ⟨z, z1, z2⟩ := X_worst F (by omega) (cc := i) q w c1 c2 c3 (hX.eq (by omega) hw'.x) hi b1
          have z1' : pX6_leftAtTheWorst F (nI i) (nI b) (bI q 4) w = some (nI (W i), z) := by
            rw [hW]; exact z1
          have b2 := akO_le q hW4 i
          have b3 := hW4 i
          refine Or.inr ⟨nI (akO q W (i + 1)).1, (akO q W (i + 1)).2, z, ?_, rfl, rfl, hw'.tr z2⟩
          unfold bX6_ask_42
          rw [e, if_neg (nle hi (by omega)), z1', bd_s]
          simp only [jn_e, nI_s]
          rw [ifle (by omega) (by omega), akO]
          by_cases z : (akO q W i).1 ≤ W i
          · rw [if_pos z, if_pos z]
          · rw [if_neg z, if_neg z]
      have pM : lq3 (bX7_ask_39 F (bI q 4) (jX7_ask_195 F (nI d))) F (nI (cn q 4)) (-4) 0 v1 = jX7_ask_195 F (nI d) (nI (akO q W c).1) (akO q W c).2 v1 := by
        refine lq3_up (n := c) (I := fun i x y w => x = nI (akO q W i).1 ∧ y = (akO q W i).2 ∧ w = v1) (Q := fun o => o = jX7_ask_195 F (nI d) (nI (akO q W c).1) (akO q W c).2 v1) ?_ ?_ c 0 F _ _ v1 (by omega) (by omega) ⟨rfl, rfl, rfl⟩
        · rintro g x y w ⟨rfl, rfl, rfl⟩
          unfold bX7_ask_39
          rw [e0, if_pos (yle (Nat.le_refl _) (by omega))]
        · rintro g i x y w hi ⟨rfl, rfl, rfl⟩
          have mw := M_worst F (by omega) (j := b) (cc := i) q w (jX7_ask_157 F (nI (akO q W i).1) (akO q W i).2 (nI i) g) c1 hi (fun hb hhb => m2 hb hhb i hi) (fun o ho => (hVb i hi o ho).2)
          rw [← xm_mm q (vH P i b) (hVb i hi)] at mw
          have mw' : lq2 (bX7_ask_54 F (bI q 4) (nI i) (jX7_ask_157 F (nI (akO q W i).1) (akO q W i).2 (nI i) g)) F 0 0 w = jX7_ask_157 F (nI (akO q W i).1) (akO q W i).2 (nI i) g (nI (W i)) w := by
            rw [mw, hW]
          have b2 := akO_le q hW4 i
          have b3 := hW4 i
          refine Or.inr ⟨nI (akO q W (i + 1)).1, (akO q W (i + 1)).2, w, ?_, rfl, rfl, rfl⟩
          unfold bX7_ask_39
          rw [e0, if_neg (nle hi (by omega)), jn_e, mw']
          unfold jX7_ask_157
          simp only [jn_e, nI_s]
          rw [akO]
          by_cases z : (akO q W i).1 ≤ W i
          · rw [if_pos (yle z (by omega)), if_pos (yle z (by omega)), if_pos z]
          · rw [if_neg (nle (by omega) (by omega)), if_neg (nle (by omega) (by omega)), if_neg z]
      obtain ⟨u', p1, p2⟩ := pX
      rw [k, k', bd_s, bd_s, i10, i10, t, t', bd_s, bd_s, i10, i10, g1, m1, bd_s, bd_s, X_pop F q (show 4 ≤ 4 by omega), M_pop F (show 80 ≤ F by omega) q (show 4 ≤ 4 by omega), bd_s, bd_s, jn_e, jn_e, p1, pM]
      unfold jX6_ask_85 jX7_ask_195
      have hR := h.eq p2.x m3
      by_cases z : (akO q W c).2 = -4
      · rw [if_pos z, if_pos z]; exact ⟨_, _, _, rfl, rfl, hR⟩
      · rw [if_neg z, if_neg z]
        by_cases z' : nI d = 0
        · rw [if_pos z', if_pos z']; exact ⟨_, _, _, rfl, rfl, hR⟩
        · rw [if_neg z', if_neg z']; exact ⟨_, _, _, rfl, rfl, hR⟩
    · simp only [k, k', t, t', bd_s, i10, i00]
      exact ⟨_, _, _, rfl, rfl, h⟩
  · simp only [k, k', bd_s, i00]
    exact ⟨_, _, _, rfl, rfl, h⟩
theorem step_ask {u v : St} (h : RR u v) (x0 x1 : Int32) : ∃ (r : Int32) (u' v' : St), pX6_ask LF x0 x1 u = some (r, u') ∧ pX7_ask LF x0 x1 v = some (r, v') ∧ RR u' v' := st_ask LF (by decide) h x0 x1
