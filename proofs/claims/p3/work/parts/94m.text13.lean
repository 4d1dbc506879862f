/-! PURE: text: the lines one after another -/
theorem text_stop (F : Nat) {b : Nat → Nat} {n : Nat} {u v : St} (Q : Option (Int32 × St) → Option (Int32 × St) → Prop) (JX : Int32 → Int32 → St → Option (Int32 × St)) (JM : Int32 → St → Option (Int32 × St)) (good : ∀ (k : Nat) (R : Nat → Nat) (rc rj dt h5 h6 p e vu : Nat) (u' v' : St), TR b n R rc rj dt h5 h6 u' v' → Tok b n 0 p e vu u' v' → FrX u u' → FrM v v' → Q (JX (nI k) 1 u') (JM (nI k) v')) (sX : Int32 → Int32 → St → Option (Int32 × St)) (sM : Int32 → St → Option (Int32 × St)) {k : Nat} {R : Nat → Nat} {rc rj dt h5 h6 p e vu : Nat} {u1 v1 : St} (hT : TR b n R rc rj dt h5 h6 u1 v1) (hK : Tok b n 0 p e vu u1 v1) (fX : FrX u u1) (fM : FrM v v1) : Q (bX6_text_10 F JX sX (nI k) 1 u1) (bX7_text_62 F JM sM (nI k) v1) := by
  have hg := good k R rc rj dt h5 h6 p e vu u1 v1 hT hK fX fM
  obtain ⟨k1, k2, k3, k4, k5, k20, k21, k22, k23, k13, k12, k11, k14, k9⟩ := hK
  have eX : bX6_text_10 F JX sX (nI k) 1 u1 = JX (nI k) 1 u1 := by
    unfold bX6_text_10 pX2_isAtEnd
    rw [i10]
    by_cases q : (160 : Int32) ≤ nI k
    · rw [if_pos q]
    · rw [if_neg q, k20, if_pos (show nI 0 = 0 from rfl), bd_s, i10]
  have eM : bX7_text_62 F JM sM (nI k) v1 = JM (nI k) v1 := by
    unfold bX7_text_62
    rw [k9, if_pos (show nI 0 = 0 from rfl), k13, if_pos (show nI 0 = 0 from rfl)]
  rw [eX, eM]
  exact hg
theorem text_loop (F : Nat) (hF : 200 ≤ F) {b : Nat → Nat} {n : Nat} {u v : St} (Q : Option (Int32 × St) → Option (Int32 × St) → Prop) (JX : Int32 → Int32 → St → Option (Int32 × St)) (JM : Int32 → St → Option (Int32 × St)) (good : ∀ (k : Nat) (R : Nat → Nat) (rc rj dt h5 h6 p e vu : Nat) (u' v' : St), TR b n R rc rj dt h5 h6 u' v' → Tok b n 0 p e vu u' v' → FrX u u' → FrM v v' → Q (JX (nI k) 1 u') (JM (nI k) v')) (bad : ∀ (k x q : Nat) (u' v' : St), Bad x q u' v' → FrX u u' → FrM v v' → Q (JX (nI k) 0 u') (JM (nI k) v')) : ∀ (d k G G' : Nat) (R : Nat → Nat) (rc rj dt h5 h6 t p e vu : Nat) (u1 v1 : St), n ≤ p + d → d < G → d < G' → k ≤ p → TR b n R rc rj dt h5 h6 u1 v1 → Z0 R (2 * rc) → Tok b n t p e vu u1 v1 → FrX u u1 → FrM v v1 → Q (lq2 (bX6_text_10 F JX) G (nI k) 1 u1) (lq1 (bX7_text_62 F JM) G' (nI k) v1) := by
  intro d
  induction d with
  | zero =>
    intro k G G' R rc rj dt h5 h6 t p e vu u1 v1 hd hG hG' hk hT hZ hK fX fM
    obtain ⟨G1, rfl⟩ : ∃ G1, G = G1 + 1 := ⟨G - 1, by omega⟩
    obtain ⟨G2, rfl⟩ : ∃ G2, G' = G2 + 1 := ⟨G' - 1, by omega⟩
    have t0 : t = 0 := by
      have h1 := hK.2.2.2.1
      have h2 := hK.2.2.1
      by_cases q : t = 0
      · exact q
      · have := h1 q
        omega
    rw [t0] at hK
    show Q (bX6_text_10 F JX (lq2 (bX6_text_10 F JX) G1) (nI k) 1 u1) (bX7_text_62 F JM (lq1 (bX7_text_62 F JM) G2) (nI k) v1)
    exact text_stop F Q JX JM good _ _ hT hK fX fM
  | succ d ih =>
    intro k G G' R rc rj dt h5 h6 t p e vu u1 v1 hd hG hG' hk hT hZ hK fX fM
    obtain ⟨G1, rfl⟩ : ∃ G1, G = G1 + 1 := ⟨G - 1, by omega⟩
    obtain ⟨G2, rfl⟩ : ∃ G2, G' = G2 + 1 := ⟨G' - 1, by omega⟩
    show Q (bX6_text_10 F JX (lq2 (bX6_text_10 F JX) G1) (nI k) 1 u1) (bX7_text_62 F JM (lq1 (bX7_text_62 F JM) G2) (nI k) v1)
    by_cases t0 : t = 0
    · rw [t0] at hK
      exact text_stop F Q JX JM good _ _ hT hK fX fM
    · have hl := lineT F hF hT hZ hK t0
      have n1 := hT.1.1
      obtain ⟨k1, k2, k3, k4, k5, k20, k21, k22, k23, k13, k12, k11, k14, k9⟩ := hK
      have hp := k4 t0
      have eX : bX6_text_10 F JX (lq2 (bX6_text_10 F JX) G1) (nI k) 1 u1 = bd (pX2_takesLine F u1) (fun (r23 : Int32) (u22 : St) => (lq2 (bX6_text_10 F JX) G1 (nI (k + 1)) r23 u22)) := by
        unfold bX6_text_10 pX2_isAtEnd
        rw [i10, if_neg (show ¬ (160 : Int32) ≤ nI k by rw [L160]; exact nle (by omega) (by omega)), k20, if_neg (n0f t0 (by omega)), bd_s, i00, nI_s]
      have eM : bX7_text_62 F JM (lq1 (bX7_text_62 F JM) G2) (nI k) v1 = bd (pX7_readLine F v1) (fun (_ : Unit) (u30 : St) => (lq1 (bX7_text_62 F JM) G2 (nI (k + 1)) u30)) := by
        unfold bX7_text_62
        rw [k9, if_pos (show nI 0 = 0 from rfl), k13, if_neg (n0f t0 (by omega)), nI_s]
      rw [eX, eM]
      rcases hl with ⟨R', rc', rj', dt', h5', h6', t', p', e', vu', u', v', g1, g2, g3, g4, g5, g6, g7, g8⟩ | ⟨x, q, u', v', g1, g2, g3, g4, g5⟩
      · rw [g1, bd_s, g2, bd_s]
        exact ih (k + 1) G1 G2 R' rc' rj' dt' h5' h6' t' p' e' vu' u' v' (by omega) (by omega) (by omega) (by omega) g3 g4 g5 (fX.tr g7) (fM.tr g8)
      · obtain ⟨G3, rfl⟩ : ∃ G3, G1 = G3 + 1 := ⟨G1 - 1, by omega⟩
        obtain ⟨G4, rfl⟩ : ∃ G4, G2 = G4 + 1 := ⟨G2 - 1, by omega⟩
        have hb := bad (k + 1) x q u' v' g3 (fX.tr g4) (fM.tr g5)
        have eX2 : lq2 (bX6_text_10 F JX) (G3 + 1) (nI (k + 1)) 0 u' = JX (nI (k + 1)) 0 u' := by
          show bX6_text_10 F JX (lq2 (bX6_text_10 F JX) G3) (nI (k + 1)) 0 u' = _
          unfold bX6_text_10
          rw [i00]
        have eM2 : lq1 (bX7_text_62 F JM) (G4 + 1) (nI (k + 1)) v' = JM (nI (k + 1)) v' := by
          show bX7_text_62 F JM (lq1 (bX7_text_62 F JM) G4) (nI (k + 1)) v' = _
          obtain ⟨x1, x2, x3, x4, x5, x6, x7⟩ := g3
          unfold bX7_text_62
          rw [x6, if_neg (n0f (by omega) (by omega))]
        rw [g1, bd_s, g2, bd_s, eX2, eM2]
        exact hb
/-- the docket names what is told -/
theorem X_inR (F : Nat) {c x : Nat} (u : St) (hc : c < 1000) (hx : x < 1000) : pX6_isIn F (Int32.toInt64 (nI x)) 0 (nI c - 1) u = some (b01 (x < c), u) := by
  rw [X_isIn, tI64, subL (by omega), tI (by omega), show (0 : Int32).toInt = 0 from by decide]
  by_cases q : x < c
  · rw [b01_t q, b01_t (by constructor <;> omega)]
  · rw [b01_f q, b01_f (by omega)]
theorem X_stands (F : Nat) (hF : 200 ≤ F) {R : Nat → Nat} {rc rj : Nat} (u : St) (hC : CtX 3 rc rj R u) (hB : BD R rc rj) (hc : rc ≤ 4) (hj : rj ≤ 3) : pX2_docketStands F u = if (∀ i, i < R 55 → R (56 + i) < rc ∧ R (62 + i) < rj) then some (1, u) else some (0, stf u 18 6) := by
  have B2 := hB.2.1
  have hb7 := hB.2.2.2.2.2.2
  obtain ⟨h1, h2, h3, h4, h5, h6, h7, h8, h9⟩ := hC
  have c1 : u.1 12 = nI rc := h1
  have c2 : u.1 13 = nI rj := h2
  have c4 : u.1 15 = nI (R 55) := h4
  have hcs : ∀ x, x < 1000 → pX0_hasCase F 3 (Int32.toInt64 (nI x)) u = some (b01 (x < rc), u) := fun x hx => by
    unfold pX0_hasCase
    rw [show 4 * 3 + 0 = 12 from rfl, c1, X_inR F u (by omega) hx, bd_s, z01_b01, gd_true]
  have hjd : ∀ x, x < 1000 → pX0_hasJudge F 3 (nI x) u = some (b01 (x < rj), u) := fun x hx => by
    unfold pX0_hasJudge
    rw [show 4 * 3 + 1 = 13 from rfl, c2, X_inR F u (by omega) hx, bd_s, z01_b01, gd_true]
  have hJ : jX2_docketStands_52 F u = some (0, stf u 18 6) := by
    unfold jX2_docketStands_52 pX2_fails
    rw [vl_e, bd_s, z01_0, gd_true]
  have step : ∀ s i, i < R 55 → bX2_docketStands_2 F (jX2_docketStands_52 F) s (nI i) u = if R (56 + i) < rc ∧ R (62 + i) < rj then s (nI (i + 1)) u else some (0, stf u 18 6) := fun s i hi => by
    have o1 : u.2 50 i = nI (R (56 + i)) := (h9 i hi).1
    have o2 : u.2 51 i = nI (R (62 + i)) := (h9 i hi).2
    have bb := hb7 i hi
    unfold bX2_docketStands_2
    rw [c4, if_neg (nle hi (by omega)), gd_i (by omega) (by omega), cl (by omega), o1, hcs _ (by omega), bd_s, b01_0, gd_i (by omega) (by omega), o2, hjd _ (by omega), bd_s, b01_0, hJ, nI_s]
    by_cases a : R (56 + i) < rc
    · by_cases b : R (62 + i) < rj
      · rw [if_pos a, if_pos b, if_pos ⟨a, b⟩]
      · rw [if_pos a, if_neg b, if_neg (fun z => b z.2)]
    · rw [if_neg a, if_neg (fun z => a z.1)]
  unfold pX2_docketStands
  rw [jn_e]
  have go : ∀ (k i G : Nat), i + k = R 55 → k < G → ((∀ j, i ≤ j → j < R 55 → R (56 + j) < rc ∧ R (62 + j) < rj) → lq1 (bX2_docketStands_2 F (jX2_docketStands_52 F)) G (nI i) u = some (1, u)) ∧ (¬ (∀ j, i ≤ j → j < R 55 → R (56 + j) < rc ∧ R (62 + j) < rj) → lq1 (bX2_docketStands_2 F (jX2_docketStands_52 F)) G (nI i) u = some (0, stf u 18 6)) := by
    intro k
    induction k with
    | zero =>
      intro i G hi hG
      obtain ⟨G1, rfl⟩ : ∃ G1, G = G1 + 1 := ⟨G - 1, by omega⟩
      have e : lq1 (bX2_docketStands_2 F (jX2_docketStands_52 F)) (G1 + 1) (nI i) u = some (1, u) := by
        show bX2_docketStands_2 F (jX2_docketStands_52 F) (lq1 (bX2_docketStands_2 F (jX2_docketStands_52 F)) G1) (nI i) u = _
        unfold bX2_docketStands_2
        rw [c4, if_pos (yle (by omega) (by omega))]
      exact ⟨fun _ => e, fun z => absurd (fun j a b => by omega) z⟩
    | succ k ih =>
      intro i G hi hG
      obtain ⟨G1, rfl⟩ : ∃ G1, G = G1 + 1 := ⟨G - 1, by omega⟩
      have e : lq1 (bX2_docketStands_2 F (jX2_docketStands_52 F)) (G1 + 1) (nI i) u = if R (56 + i) < rc ∧ R (62 + i) < rj then lq1 (bX2_docketStands_2 F (jX2_docketStands_52 F)) G1 (nI (i + 1)) u else some (0, stf u 18 6) := step _ i (by omega)
      obtain ⟨i1, i2⟩ := ih (i + 1) G1 (by omega) (by omega)
      rw [e]
      by_cases a : R (56 + i) < rc ∧ R (62 + i) < rj
      · rw [if_pos a]
        refine ⟨fun z => i1 (fun j h1 h2 => z j (by omega) h2), fun z => i2 (fun y => z (fun j h1 h2 => ?_))⟩
        by_cases q : j = i
        · rw [q]; exact a
        · exact y j (by omega) h2
      · rw [if_neg a]
        exact ⟨fun z => absurd (z i (by omega) (by omega)) a, fun _ => rfl⟩
  obtain ⟨y1, y2⟩ := go (R 55) 0 F (by omega) (by omega)
  rw [show lq1 (bX2_docketStands_2 F (jX2_docketStands_52 F)) F 0 u = lq1 (bX2_docketStands_2 F (jX2_docketStands_52 F)) F (nI 0) u from rfl]
  by_cases q : ∀ i, i < R 55 → R (56 + i) < rc ∧ R (62 + i) < rj
  · rw [if_pos q]
    exact y1 (fun j _ h => q j h)
  · rw [if_neg q]
    exact y2 (fun z => q (fun i hi => z i (by omega) hi))
