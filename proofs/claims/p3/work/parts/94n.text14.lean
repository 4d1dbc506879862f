/-! PURE: text: how it ends -/
def TQ (x m : Option (Int32 × St)) : Prop := ∃ (r : Int32) (u' v' : St), x = some (r, u') ∧ m = some (r, v') ∧ RR u' v'
def eX (F : Nat) (a3 : Int32) (a6 : Int32) (u7 : St) : Option (Int32 × St) := vl (stf u7 17 0) (fun (u8 : St) => if a6 = 0 then some (((-10) - (u8.1 21)), u8) else bd (pX0_becomes F 0 3 u8) (fun (_ : Unit) (u9 : St) => vl (stf u9 29 0) (fun (u10 : St) => gd (inb 0 2) (vl (stz u10 66 0 0) (fun (u11 : St) => gd (inb 1 2) (vl (stz u11 66 1 0) (fun (u12 : St) => some (a3, u12))))))))
theorem X_end_e (F : Nat) (a3 a4 : Int32) (u5 : St) : jX6_text_45 F a3 a4 u5 = if a4 = 0 then eX F a3 0 u5 else bd (pX2_docketStands F u5) (fun (r15 : Int32) (u14 : St) => if r15 = 0 then eX F a3 0 u14 else eX F a3 1 u14) := rfl
def eM (F : Nat) (a10 : Int32) (u12 : St) : Option (Int32 × St) := vl (stf u12 7 0) (fun (u13 : St) => vl (stf u13 8 (u13.1 9)) (fun (u14 : St) => if (u14.1 9) ≤ 0 then (lq1 (bX7_text_151 F (jX7_text_175 F a10)) F 0 u14) else some (((-10) - (u14.1 10)), u14)))
theorem M_end_e (F : Nat) (a10 : Int32) (u11 : St) : jX7_text_86 F a10 u11 = if (u11.1 9) = 0 then (if (u11.1 2) ≤ (u11.1 5) then bd (pX7_fails F 6 u11) (fun (_ : Unit) (u26 : St) => eM F a10 u26) else if (u11.1 6) < (u11.1 3) then eM F a10 u11 else bd (pX7_fails F 6 u11) (fun (_ : Unit) (u26 : St) => eM F a10 u26)) else eM F a10 u11 := rfl
theorem text_fail (F : Nat) {u v u' v' : St} (h : RR u v) {k q : Nat} (hb : Bad k q u' v') (fX : FrX u u') (fM : FrM v v') (a b : Int32) : TQ (eX F a 0 u') (eM F b v') := by
  obtain ⟨c, jn, P, ⟨c1, c2, c3, hX, c5, c6, c7⟩, i0, i1, hs, ht, hw, htn, hsh, hc⟩ := h
  have hle := hb.le
  obtain ⟨x1, x2, x3, x4, x5, x6, x7⟩ := hb
  obtain ⟨U, hU⟩ : ∃ U, U = stf u' 17 0 := ⟨_, rfl⟩
  obtain ⟨V, hV⟩ : ∃ V, V = stf (stf v' 7 0) 8 (v'.1 9) := ⟨_, rfl⟩
  have e1 : eX F a 0 u' = some (-10 - nI q, U) := by
    unfold eX
    rw [vl_e, i00, sf_n _ _ _ (by omega), x5, hU]
  have e2 : eM F b v' = some (-10 - nI q, V) := by
    unfold eM
    rw [vl_e, vl_e, sf_n _ _ _ (by omega), sf_n _ _ _ (by omega), if_neg hle, sf_n _ _ _ (by omega), sf_n _ _ _ (by omega), x7, hV]
  have U1 : ∀ k, k < 12 ∨ k = 16 ∨ 24 ≤ k → U.1 k = u.1 k := fun k hk => by rw [hU, sf_n _ _ _ (by omega)]; exact fX.1 k (by omega)
  have U2 : ∀ k, k < 39 ∨ 51 < k → U.2 k = u.2 k := fun k hk => by rw [hU]; exact fX.2 k hk
  have V1 : ∀ k, k < 2 ∨ 15 ≤ k → V.1 k = v.1 k := fun k hk => by rw [hV, sf_n _ _ _ (by omega), sf_n _ _ _ (by omega)]; exact fM.1 k (by omega)
  have V2 : ∀ k, k ≠ 2 → V.2 k = v.2 k := fun k hk => by rw [hV]; exact fM.2 k hk
  have im : ∀ j, j < 2 → RImg j c jn u v → RImg j c jn U V := fun j hj z => z.same hj (fun i hi => U1 _ (by omega)) (fun i hi => U2 _ (by omega)) (by rw [U2 66 (by omega)]) (by rw [V2 12 (by omega)]) (fun i hi => by rw [V2 0 (by omega)])
  refine ⟨-10 - nI q, U, V, e1, e2, c, jn, P, ⟨c1, c2, c3, hX.frj (fun i hi => U1 _ (by omega)) (fun i hi => U2 _ (by omega)), (V1 0 (by omega)).trans c5, (V1 1 (by omega)).trans c6, fun i hi => by rw [V2 0 (by omega)]; exact c7 i hi⟩, im 0 (by omega) i0, im 1 (by omega) i1, ?_, ⟨0, by omega, by rw [hU, sf_k]; rfl, by rw [hV, sf_n _ _ _ (by omega), sf_k]; rfl, fun i hi => by omega⟩, ?_, ?_, ?_, ?_⟩
  · exact hs.fr (U1 29 (by omega)) (U2 _ (by omega)) (U2 _ (by omega)) (U2 _ (by omega)) (V1 21 (by omega)) (V2 _ (by omega))
  · rw [hU, hV, sf_n _ _ _ (by omega), sf_k, x6]
    rcases x4 with x4 | ⟨z, x4⟩
    · rw [x4]; exact Or.inl rfl
    · rw [x4, z]; exact Or.inr ⟨by decide +kernel, by decide +kernel⟩
  · rw [U1 16 (by omega), V1 22 (by omega)]; exact htn
  · exact fun i hi => (hsh i hi).fr (U2 _ (by omega)) (U2 _ (by omega)) (U2 _ (by omega)) (V2 _ (by omega)) (V2 _ (by omega)) (V2 _ (by omega))
  · exact hc.fr (V1 15 (by omega)) (V1 17 (by omega)) (V2 _ (by omega)) (V2 _ (by omega)) (V2 _ (by omega))
theorem stz01 (s : St) (k : Nat) : (stz (stz s k 0 0) k 1 0).2 k 0 = 0 ∧ (stz (stz s k 0 0) k 1 0).2 k 1 = 0 := by
  have e : stz (stz s k 0 0) k 1 0 = stz (stz s k (nI 0) 0) k (nI 1) 0 := rfl
  rw [e]
  exact ⟨by rw [stz_o _ _ (by omega) (by omega), stz_h _ _ (by omega), if_pos rfl, vb0], by rw [stz_h _ _ (by omega), if_pos rfl, vb0]⟩
theorem M_page (F : Nat) (hF : 200 ≤ F) (J : St → Option (Int32 × St)) (v : St) : ∃ y : St, lq1 (bX7_text_151 F J) F 0 v = J y ∧ y.1 = v.1 ∧ (∀ k, k ≠ 0 → y.2 k = v.2 k) ∧ ∀ j, j < 68 → y.2 0 j = v.2 2 j := by
  have := lq1_up (b := bX7_text_151 F J) (n := 68) (fun i w => w.1 = v.1 ∧ (∀ k, k ≠ 0 → w.2 k = v.2 k) ∧ ∀ j, j < i → w.2 0 j = v.2 2 j) (fun x => ∃ y : St, x = J y ∧ y.1 = v.1 ∧ (∀ k, k ≠ 0 → y.2 k = v.2 k) ∧ ∀ j, j < 68 → y.2 0 j = v.2 2 j)
    (fun s w ⟨i1, i2, i3⟩ => ⟨w, by unfold bX7_text_151; rw [L68, if_pos (yle (by omega) (by omega))], i1, i2, i3⟩)
    (fun s i w hi ⟨i1, i2, i3⟩ => Or.inr ⟨sta w 0 (nI i) (w.2 2 i), by
      unfold bX7_text_151
      rw [L68, if_neg (nle hi (by omega)), gd_i (by omega) (by omega), gd_i (by omega) (by omega), vl_e, cl (by omega), nI_s], i1, fun k hk => by rw [sta_m _ _ _ hk]; exact i2 k hk, fun j hj => by
        rw [sta_h _ _ (by omega)]
        by_cases q : j = i
        · rw [if_pos q, i2 2 (by omega), q]
        · rw [if_neg q]; exact i3 j (by omega)⟩)
    68 0 F v (by omega) (by omega) ⟨rfl, fun _ _ => rfl, fun j hj => by omega⟩
  exact this
theorem M_zero (F : Nat) (hF : 200 ≤ F) (J : St → Option (Int32 × St)) (v : St) : ∃ y : St, lq1 (bX7_text_39 F J) F 0 v = J y ∧ y.1 = v.1 ∧ (∀ k, k ≠ 2 → y.2 k = v.2 k) ∧ ∀ j, j < 68 → y.2 2 j = nI 0 := by
  have := lq1_up (b := bX7_text_39 F J) (n := 68) (fun i w => w.1 = v.1 ∧ (∀ k, k ≠ 2 → w.2 k = v.2 k) ∧ ∀ j, j < i → w.2 2 j = nI 0) (fun x => ∃ y : St, x = J y ∧ y.1 = v.1 ∧ (∀ k, k ≠ 2 → y.2 k = v.2 k) ∧ ∀ j, j < 68 → y.2 2 j = nI 0)
    (fun s w ⟨i1, i2, i3⟩ => ⟨w, by unfold bX7_text_39; rw [L68, if_pos (yle (by omega) (by omega))], i1, i2, i3⟩)
    (fun s i w hi ⟨i1, i2, i3⟩ => Or.inr ⟨sta w 2 (nI i) 0, by
      unfold bX7_text_39
      rw [L68, if_neg (nle hi (by omega)), gd_i (by omega) (by omega), vl_e, nI_s], i1, fun k hk => by rw [sta_m _ _ _ hk]; exact i2 k hk, fun j hj => by
        rw [sta_h _ _ (by omega)]
        by_cases q : j = i
        · rw [if_pos q]; rfl
        · rw [if_neg q]; exact i3 j (by omega)⟩)
    68 0 F v (by omega) (by omega) ⟨rfl, fun _ _ => rfl, fun j hj => by omega⟩
  exact this
theorem text_win (F : Nat) (hF : 200 ≤ F) {b : Nat → Nat} {n k : Nat} {R : Nat → Nat} {rc rj dt h5 h6 p e vu : Nat} {u v u' v' : St} (h : RR u v) (hT : TR b n R rc rj dt h5 h6 u' v') (hK : Tok b n 0 p e vu u' v') (fX : FrX u u') (fM : FrM v v') (hst : ∀ i, i < R 55 → R (56 + i) < rc ∧ R (62 + i) < rj) : TQ (eX F (nI k) 1 u') (eM F (nI k) v') := by
  obtain ⟨c, jn, P, ⟨c1, c2, c3, hX, c5, c6, c7⟩, i0, i1, hs, ht, hw, htn, hsh, hc⟩ := h
  obtain ⟨t1, t2, ⟨q1, q2, q3, q4⟩, ⟨b1, b2, b3, b4, b5, b6, b7⟩, t5, t6, ⟨t7, t8⟩, t9, t10, t11, t12, t13, t14⟩ := hT
  obtain ⟨k1, k2, k3, k4, k5, k20, k21, k22, k23, k13, k12, k11, k14, k9⟩ := hK
  have hP : PgOK rc rj R := ⟨b1, b2, b3, fun i hi => by rw [b4 (24 + i) (by omega) (by omega), b4 (28 + i) (by omega) (by omega), b4 (32 + i) (by omega) (by omega), b4 (36 + i) (by omega) (by omega)]; omega, b5, b6, hst⟩
  have g02 : inb 0 2 = true := by decide +kernel
  have g12 : inb 1 2 = true := by decide +kernel
  obtain ⟨w0, hw0⟩ : ∃ w0, w0 = stf u' 17 0 := ⟨_, rfl⟩
  obtain ⟨w, g1, g2, g3, g4, g5⟩ := X_becomes F (p := 3) (j := 0) (by omega) (by omega) (by omega) w0
  have hC0 : CtX 3 rc rj R w0 := t6.frj (fun i hi => by rw [hw0, sf_n _ _ _ (by omega)]) (fun i hi => by rw [hw0]; rfl)
  have hC : CtX 0 rc rj R w := hC0.becomes hP q1 q2 g2 g5
  obtain ⟨U, hU⟩ : ∃ U, U = stz (stz (stf w 29 0) 66 0 0) 66 1 0 := ⟨_, rfl⟩
  have e1 : eX F (nI k) 1 u' = some (nI k, U) := by
    unfold eX
    rw [vl_e, i10, ← hw0, g1, bd_s, vl_e, g02, gd_true, vl_e, g12, gd_true, vl_e, hU]
  obtain ⟨x0, hx0⟩ : ∃ x0, x0 = stf (stf v' 7 0) 8 (v'.1 9) := ⟨_, rfl⟩
  obtain ⟨y, m1, m2, m3, m4⟩ := M_page F hF (jX7_text_175 F (nI k)) x0
  obtain ⟨V, hV⟩ : ∃ V, V = stz (stz (stf (stf (stf y 0 (y.1 2)) 1 ((stf y 0 (y.1 2)).1 3)) 21 0) 12 0 0) 12 1 0 := ⟨_, rfl⟩
  have e2 : eM F (nI k) v' = some (nI k, V) := by
    have x9 : x0.1 9 = nI 0 := by rw [hx0, sf_n _ _ _ (by omega), sf_n _ _ _ (by omega)]; exact k9
    unfold eM
    rw [vl_e, vl_e, sf_n v' 7 0 (show 9 ≠ 7 by omega), ← hx0, x9, if_pos (show nI 0 ≤ 0 by decide), m1]
    unfold jX7_text_175
    rw [vl_e, vl_e, vl_e, g02, gd_true, vl_e, g12, gd_true, vl_e, hV]
  have y1 : ∀ j, j ≠ 7 → j ≠ 8 → y.1 j = v'.1 j := fun j h1 h2 => by rw [m2, hx0, sf_n _ _ _ h2, sf_n _ _ _ h1]
  have U1 : ∀ j, j ≠ 29 → U.1 j = w.1 j := fun j hj => by
    rw [hU, stz_1, stz_1, sf_n _ _ _ hj]
  have U2 : ∀ j, j ≠ 66 → U.2 j = w.2 j := fun j hj => by
    rw [hU, stz_m _ _ _ hj, stz_m _ _ _ hj]
    rfl
  have W1 : ∀ j, 4 ≤ j → j ≠ 17 → w.1 j = u'.1 j := fun j h1 h2 => by rw [g3 j (by omega), hw0, sf_n _ _ _ h2]
  have W2 : ∀ j, 13 ≤ j → w.2 j = u'.2 j := fun j h1 => by rw [g4 j (by omega), hw0]; rfl
  have V1 : ∀ j, j ≠ 0 → j ≠ 1 → j ≠ 21 → V.1 j = y.1 j := fun j h1 h2 h3 => by
    rw [hV, stz_1, stz_1, sf_n _ _ _ h3, sf_n _ _ _ h2, sf_n _ _ _ h1]
  have V2 : ∀ j, j ≠ 12 → V.2 j = y.2 j := fun j hj => by
    rw [hV, stz_m _ _ _ hj, stz_m _ _ _ hj]
    rfl
  have Y2 : ∀ j, j ≠ 0 → y.2 j = v'.2 j := fun j hj => by rw [m3 j hj, hx0]; rfl
  have z66 := stz01 (stf w 29 0) 66
  have z12 := stz01 (stf (stf (stf y 0 (y.1 2)) 1 ((stf y 0 (y.1 2)).1 3)) 21 0) 12
  rw [← hU] at z66
  rw [← hV] at z12
  refine ⟨nI k, U, V, e1, e2, rc, rj, R, ⟨q1, q2, hP, hC.frj (fun i hi => U1 _ (by omega)) (fun i hi => U2 _ (by omega)), ?_, ?_, fun i hi => ?_⟩, Or.inl ⟨z66.1, z12.1⟩, Or.inl ⟨z66.2, z12.2⟩, ⟨0, by omega, ?_, ?_, fun i hi => by omega⟩, ⟨0, by omega, ?_, ?_, fun i hi => by omega⟩, ?_, ?_, ?_, ?_⟩
  · rw [hV, stz_1, stz_1, sf_n _ _ _ (by omega), sf_n _ _ _ (by omega), sf_k, y1 2 (by omega) (by omega)]; exact t10
  · rw [hV, stz_1, stz_1, sf_n _ _ _ (by omega), sf_k, sf_n _ _ _ (by omega), y1 3 (by omega) (by omega)]; exact t11
  · rw [V2 0 (by omega), show 68 * 0 + i = i by omega, m4 i hi, hx0]
    exact t9 i hi
  · rw [hU, stz_1, stz_1, sf_k]; rfl
  · rw [hV, stz_1, stz_1, sf_k]; rfl
  · rw [U1 17 (by omega), g3 17 (by omega), hw0, sf_k]; rfl
  · rw [V1 7 (by omega) (by omega) (by omega), m2, hx0, sf_n _ _ _ (by omega), sf_k]; rfl
  · rw [U1 18 (by omega), W1 18 (by omega) (by omega), V1 8 (by omega) (by omega) (by omega), m2, hx0, sf_k, t7, k9]; exact Or.inl rfl
  · rw [U1 16 (by omega), W1 16 (by omega) (by omega), V1 22 (by omega) (by omega) (by omega), y1 22 (by omega) (by omega), fX.1 16 (by omega), fM.1 22 (by omega)]; exact htn
  · have E : ∀ a, 63 ≤ a → a ≤ 65 → U.2 a = u.2 a := fun a h1 h2 => by rw [U2 a (by omega), W2 a (by omega)]; exact fX.2 a (by omega)
    have G : ∀ a, 9 ≤ a → a ≤ 11 → V.2 a = v.2 a := fun a h1 h2 => by rw [V2 a (by omega), Y2 a (by omega)]; exact fM.2 a (by omega)
    exact fun i hi => (hsh i hi).fr (E 63 (by omega) (by omega)) (E 64 (by omega) (by omega)) (E 65 (by omega) (by omega)) (G 9 (by omega) (by omega)) (G 10 (by omega) (by omega)) (G 11 (by omega) (by omega))
  · have G : ∀ a, a ≠ 0 → a ≠ 2 → a ≠ 12 → V.2 a = v.2 a := fun a h1 h2 h3 => by rw [V2 a h3, Y2 a h1]; exact fM.2 a h2
    exact hc.fr (by rw [V1 15 (by omega) (by omega) (by omega), y1 15 (by omega) (by omega)]; exact fM.1 15 (by omega)) (by rw [V1 17 (by omega) (by omega) (by omega), y1 17 (by omega) (by omega)]; exact fM.1 17 (by omega)) (G 1 (by omega) (by omega) (by omega)) (G 4 (by omega) (by omega) (by omega)) (G 5 (by omega) (by omega) (by omega))
