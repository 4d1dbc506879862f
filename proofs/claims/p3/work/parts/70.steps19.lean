/-! PURE: swap -/
def swP (P : Nat → Nat) (p q : Nat) : Nat → Nat := pu (pu P (62 + p) (P (62 + q))) (62 + q) (P (62 + p))
theorem swP_lo (P : Nat → Nat) (p q : Nat) {k : Nat} (hk : k < 62) : swP P p q k = P k := by
  unfold swP
  rw [pu_n _ (by omega), pu_n _ (by omega)]
theorem swP_ok {c jn p q : Nat} {P : Nat → Nat} (h : PgOK c jn P) (hc : c ≤ 4) (hj : jn ≤ 3) (hp : p < P 55) (hq : q < P 55) : PgOK c jn (swP P p q) := by
  obtain ⟨p1, p2, p3, p4, p5, p6, p7⟩ := h
  have jp := p7 p hp
  have jq := p7 q hq
  refine ⟨by rw [swP_lo P p q (by omega)]; exact p1, by rw [swP_lo P p q (by omega)]; exact p2, fun f hf => ?_, fun f hf => ?_, fun f hf => ?_, fun f hf => ?_, fun f hf => ?_⟩
  · rw [swP_lo P p q (by omega), swP_lo P p q (by omega), swP_lo P p q (by omega)]; exact p3 f hf
  · rw [swP_lo P p q (by omega), swP_lo P p q (by omega), swP_lo P p q (by omega), swP_lo P p q (by omega)]; exact p4 f hf
  · rw [swP_lo P p q (by omega), swP_lo P p q (by omega)]; exact p5 f hf
  · rw [swP_lo P p q (by omega)] at hf
    rw [swP_lo P p q (by omega), swP_lo P p q (by omega)]; exact p6 f hf
  · rw [swP_lo P p q (by omega)] at hf
    have jf := p7 f hf
    rw [swP_lo P p q (by omega)]
    refine ⟨jf.1, ?_⟩
    unfold swP pu
    split
    · exact jp.2
    · split
      · exact jq.2
      · exact jf.2
/-- in how many cases a side wins by the docket -/
def wd (P : Nat → Nat) (aw s c : Nat) : Nat := cn (fun k => decide (dkV P (stg P aw (P 46)) (P 55) k = s + 1)) c
theorem X_wonD (F : Nat) (hF : 80 ≤ F) {c jn aw s : Nat} {P : Nat → Nat} (u : St) (hc4 : c ≤ 4) (hj3 : jn ≤ 3) (hPg : PgOK c jn P) (hX : CtX 0 c jn P u) (ha : aw < 16) (hs : s < 2) : ∃ u', pX6_wonByDocket F (nI s) (nI aw) u = some (nI (wd P aw s c), u') ∧ eqG u u' := by
  obtain ⟨u', g1, g2, -, -, g5⟩ := X_docket F hF u hc4 hj3 hPg hX ha
  have y1 : u'.1 0 = nI c := (g5.1 0 (by omega)).trans hX.1
  have k := X_bits F hF u' (arr := 59) (val := s + 1) (fun i => dkV P (stg P aw (P 46)) (P 55) i) (show c ≤ 4 by omega) (by omega) (show 4 < 1000 by omega) (by omega) (fun i hi => ⟨by have := dkV_bd hPg (stg P aw (P 46)) (P 55) (Nat.le_refl _) i hi; show dkV P (stg P aw (P 46)) (P 55) i < 1000; omega, g2 i hi⟩)
  refine ⟨u', ?_, g5⟩
  unfold pX6_wonByDocket
  rw [g1, bd_s, y1, nI_s, k, bd_s, X_pop F _ hc4, bd_s]
  rfl
theorem M_wonD (F : Nat) (hF : 80 ≤ F) {p c jn aw mm s : Nat} {P : Nat → Nat} (v : St) (hp : p = 0 ∨ p = 5) (hc4 : c ≤ 4) (hj3 : jn ≤ 3) (hPg : PgOK c jn P) (hM : PgM p P v) (hE : MEnv aw mm 0 v) (h0 : v.1 0 = nI c) (hs : s < 2) : ∃ v', pX7_wonThen F (nI (68 * p)) (nI s) v = some (nI (wd P aw s c), v') ∧ eqD v v' := by
  obtain ⟨v', m1, ⟨Q, m2, m3⟩, -, -, m6⟩ := M_docket F hF v hp hc4 hj3 hPg hM hE
  have km := M_won F hF v' (p := 4) (val := s + 1) (by omega) hc4 ((m6.1 0 (by omega)).trans h0) m2 (by omega) (fun i hi => by rw [m3 i hi]; have := dkV_bd hPg (stg P aw (P 46)) (P 55) (Nat.le_refl _) i hi; omega)
  refine ⟨v', ?_, m6⟩
  unfold pX7_wonThen
  rw [m1, bd_s, show (272 : Int32) = nI (68 * 4) from rfl, nI_s, km, bd_s, M_pop F hF _ hc4, bd_s]
  unfold wd
  rw [cn_c c (fun i hi => by show decide (Q (24 + i) = s + 1) = decide (dkV P (stg P aw (P 46)) (P 55) i = s + 1); rw [m3 i hi])]
theorem wd_le (P : Nat → Nat) (aw s c : Nat) : wd P aw s c ≤ c := cn_le _ c
def sw1 (P : Nat → Nat) (s c p q : Nat) (st : Nat × Int32) : Nat × Int32 := if wd (swP P p q) 0 s c ≤ st.1 then st else (wd (swP P p q) 0 s c, nI (10 * p + q))
def swI (P : Nat → Nat) (s c p : Nat) : Nat → Nat × Int32 → Nat × Int32
  | 0, st => st
  | k + 1, st => sw1 P s c p (p + 1 + k) (swI P s c p k st)
def swO (P : Nat → Nat) (s c : Nat) : Nat → Nat × Int32
  | 0 => (wd P 0 s c, -4)
  | p + 1 => swI P s c p (P 55 - (p + 1)) (swO P s c p)
theorem swI_le (P : Nat → Nat) (s p : Nat) {c : Nat} {st : Nat × Int32} (hst : st.1 ≤ c) : ∀ k, (swI P s c p k st).1 ≤ c
  | 0 => hst
  | k + 1 => by
    unfold swI sw1
    split
    · exact swI_le P s p hst k
    · exact wd_le _ _ _ _
theorem swO_le (P : Nat → Nat) (s c : Nat) : ∀ p, (swO P s c p).1 ≤ c
  | 0 => wd_le _ _ _ _
  | p + 1 => swI_le P s p (swO_le P s c p) _
theorem X_chg (F : Nat) (u : St) {p q : Nat} (hp : p < 6) (hq : q < 6) : pX0_changeDocketJudges F 0 (nI p) (nI q) u = some ((), sta (sta u 12 (nI p) (u.2 12 q)) 12 (nI q) (u.2 12 p)) := by
  unfold pX0_changeDocketJudges
  rw [show 13 * 0 + 12 = 12 from rfl, gd_i (by omega) (by omega), vl_e, gd_i (by omega) (by omega), gd_i (by omega) (by omega), vl_e, gd_i (by omega) (by omega), vl_e, cl (by omega), cl (by omega)]
theorem CtX.sw {c jn p q : Nat} {P : Nat → Nat} {u : St} (h : CtX 0 c jn P u) (hPg : PgOK c jn P) (hc : c ≤ 4) (hj : jn ≤ 3) (hp : p < P 55) (hq : q < P 55) : CtX 0 c jn (swP P p q) (sta (sta u 12 (nI p) (u.2 12 q)) 12 (nI q) (u.2 12 p)) := by
  obtain ⟨h1, h2, h3, h4, h5, h6, h7, h8, h9⟩ := h
  have q1 := hPg.1
  have q2 := hPg.2.1
  have ep : u.2 12 p = nI (P (62 + p)) := (h9 p hp).2
  have eq : u.2 12 q = nI (P (62 + q)) := (h9 q hq).2
  rw [ep, eq]
  have o : ∀ k, k ≠ 12 → (sta (sta u 12 (nI p) (nI (P (62 + q)))) 12 (nI q) (nI (P (62 + p)))).2 k = u.2 k := fun k hk => by rw [sta_m _ _ _ hk, sta_m _ _ _ hk]
  refine ⟨h1, h2, by rw [swP_lo P p q (by omega)]; exact h3, by rw [swP_lo P p q (by omega)]; exact h4, fun f hf => ?_, fun f hf => ?_, fun f hf => ?_, fun f hf => ?_, fun f hf => ?_⟩
  · rw [o _ (by omega), o _ (by omega), o _ (by omega), swP_lo P p q (by omega), swP_lo P p q (by omega), swP_lo P p q (by omega)]; exact h5 f hf
  · rw [o _ (by omega), o _ (by omega), o _ (by omega), o _ (by omega), swP_lo P p q (by omega), swP_lo P p q (by omega), swP_lo P p q (by omega), swP_lo P p q (by omega)]; exact h6 f hf
  · rw [o _ (by omega), o _ (by omega), swP_lo P p q (by omega), swP_lo P p q (by omega)]; exact h7 f hf
  · rw [swP_lo P p q (by omega)] at hf
    rw [o _ (by omega), o _ (by omega), swP_lo P p q (by omega), swP_lo P p q (by omega)]; exact h8 f hf
  · rw [swP_lo P p q (by omega)] at hf
    obtain ⟨w0, w1⟩ := h9 f hf
    refine ⟨by rw [o _ (by omega), swP_lo P p q (by omega)]; exact w0, ?_⟩
    exact cellG (cellG w1 (by omega) (by omega)) (by omega) (by omega)
theorem X_sw1 (F : Nat) (hF : 80 ≤ F) {c jn s p q : Nat} {P : Nat → Nat} (w : St) (hc4 : c ≤ 4) (hj3 : jn ≤ 3) (hPg : PgOK c jn P) (hX : CtX 0 c jn P w) (hpq : p < q) (hq : q < P 55) (hs : s < 2) : ∃ w1 w2 w3, pX0_changeDocketJudges F 0 (nI p) (nI q) w = some ((), w1) ∧ pX6_wonByDocket F (nI s) 0 w1 = some (nI (wd (swP P p q) 0 s c), w2) ∧ pX0_changeDocketJudges F 0 (nI p) (nI q) w2 = some ((), w3) ∧ eqG w w3 := by
  have q2 := hPg.2.1
  have c1 := hX.sw hPg hc4 hj3 (show p < P 55 by omega) hq
  obtain ⟨w2, g1, g2⟩ := X_wonD F hF (aw := 0) _ hc4 hj3 (swP_ok hPg hc4 hj3 (show p < P 55 by omega) hq) c1 (by omega) hs
  refine ⟨_, w2, _, X_chg F w (by omega) (by omega), g1, X_chg F w2 (by omega) (by omega), fun k hk => ?_, fun k hk => ?_⟩
  · exact g2.1 k hk
  · by_cases z : k = 12
    · subst z
      have e12 : w2.2 12 = (sta (sta w 12 (nI p) (w.2 12 q)) 12 (nI q) (w.2 12 p)).2 12 := g2.2 12 (by omega)
      funext j
      rw [sta_h _ _ (by omega), sta_h _ _ (by omega), e12, sta_h _ _ (by omega), sta_h _ _ (by omega), sta_h _ _ (by omega), sta_h _ _ (by omega), sta_h _ _ (by omega), sta_h _ _ (by omega)]
      by_cases jq : j = q
      · rw [if_pos jq, if_neg (by omega), if_pos rfl, jq]
      · rw [if_neg jq]
        by_cases jp : j = p
        · rw [if_pos jp, if_pos rfl, jp]
        · rw [if_neg jp, if_neg jq, if_neg jp]
    · rw [sta_m _ _ _ z, sta_m _ _ _ z, g2.2 k hk, sta_m _ _ _ z, sta_m _ _ _ z]
def eqE (v v' : St) : Prop := (∀ k, (k < 18 ∨ 20 < k) → v'.1 k = v.1 k) ∧ (∀ k, k ≠ 0 → v'.2 k = v.2 k) ∧ ∀ i, (i < 272 ∨ 408 ≤ i) → v'.2 0 i = v.2 0 i
theorem eqE.rf {v : St} : eqE v v := ⟨fun _ _ => rfl, fun _ _ => rfl, fun _ _ => rfl⟩
theorem eqE.m {v v' : St} (h : eqE v v') : eqM v v' := ⟨fun i hi => h.2.2 i (by omega), ⟨h.1 _ (by omega), h.1 _ (by omega), h.1 _ (by omega), h.1 _ (by omega), h.1 _ (by omega), h.1 _ (by omega), h.1 _ (by omega), h.1 _ (by omega)⟩, fun k hk => h.2.1 k (by omega)⟩
theorem eqE.tr {u w x : St} (h : eqE u w) (h2 : eqE w x) : eqE u x := ⟨fun k q => (h2.1 k q).trans (h.1 k q), fun k q => (h2.2.1 k q).trans (h.2.1 k q), fun k q => (h2.2.2 k q).trans (h.2.2 k q)⟩
theorem eqE.pg {v v' : St} {P : Nat → Nat} (h : eqE v v') (hM : PgM 0 P v) : PgM 0 P v' := fun k hk => by
  rw [h.2.2 _ (by omega)]
  exact hM k hk
theorem eqE.env {v v' : St} {aw mm ms : Nat} (h : eqE v v') (hE : MEnv aw mm ms v) : MEnv aw mm ms v' := by
  obtain ⟨e1, e2, e3, e4, e5, e6, e7⟩ := hE
  refine ⟨e1, (h.1 15 (by omega)).trans e2, ?_, (h.1 17 (by omega)).trans e4, e5, e6, (h.2.1 1 (by omega)).trans e7⟩
  rw [h.1 16 (by omega)]
  exact e3
theorem eqD.e {v v' : St} (h : eqD v v') : eqE v v' := ⟨h.1, h.2.1, fun i hi => h.2.2 i (by omega)⟩
theorem eqR.e {v v' : St} (h : eqR v v') : eqE v v' := ⟨fun k hk => h.1 k (by omega), h.2.1, h.2.2⟩
theorem eqE.st5 {v w : St} (h : eqE v w) {k : Nat} (hk : k < 68) (x : Int32) : eqE v (sta w 0 (nI (340 + k)) x) := ⟨fun k hk => h.1 k hk, fun k hk => by rw [sta_m _ _ _ hk]; exact h.2.1 k hk, fun i hi => by rw [sta_h _ _ (by omega), if_neg (by omega)]; exact h.2.2 i hi⟩
theorem M_sw1 (F : Nat) (hF : 80 ≤ F) {c jn s p q : Nat} {P : Nat → Nat} (w : St) (hc4 : c ≤ 4) (hj3 : jn ≤ 3) (hPg : PgOK c jn P) (hM : PgM 0 P w) (hE : MEnv 0 0 0 w) (h0 : w.1 0 = nI c) (hpq : p < q) (hq : q < P 55) (hs : s < 2) : ∃ w1 w2, pX7_copies F 0 340 w = some ((), w1) ∧ PgM 0 P w1 ∧ pX7_wonThen F 340 (nI s) (sta (sta w1 0 (nI (402 + p)) (nI (P (62 + q)))) 0 (nI (402 + q)) (nI (P (62 + p)))) = some (nI (wd (swP P p q) 0 s c), w2) ∧ eqE w w2 := by
  have q2 := hPg.2.1
  obtain ⟨w1, g1, g2, g3⟩ := M_other F hF w hM
  have m0 := pg5 (pg5 g2 (k := 62 + p) (x := P (62 + q)) (by omega)) (k := 62 + q) (x := P (62 + p)) (by omega)
  have m0' : PgM 5 (swP P p q) (sta (sta w1 0 (nI (402 + p)) (nI (P (62 + q)))) 0 (nI (402 + q)) (nI (P (62 + p)))) := by
    have := m0
    rw [show 340 + (62 + p) = 402 + p by omega, show 340 + (62 + q) = 402 + q by omega] at this
    exact this
  have e0 := (g3.e.st5 (k := 62 + p) (by omega) (nI (P (62 + q)))).st5 (k := 62 + q) (by omega) (nI (P (62 + p)))
  rw [show 340 + (62 + p) = 402 + p by omega, show 340 + (62 + q) = 402 + q by omega] at e0
  obtain ⟨w2, k1, k2⟩ := M_wonD F hF (p := 5) _ (Or.inr rfl) hc4 hj3 (swP_ok hPg hc4 hj3 (show p < P 55 by omega) hq) m0' (e0.env hE) ((e0.1 0 (by omega)).trans h0) hs
  exact ⟨w1, w2, g1, g3.pg hM, k1, e0.tr k2.e⟩
theorem X_swI (F : Nat) (hF : 80 ≤ F) {c jn s p : Nat} {P : Nat → Nat} (J : Int32 → Int32 → St → Option (Int32 × St)) (u : St) (hc4 : c ≤ 4) (hj3 : jn ≤ 3) (hPg : PgOK c jn P) (hX : CtX 0 c jn P u) (hp : p < P 55) (hs : s < 2) {st : Nat × Int32} (hst : st.1 ≤ c) : ∃ u', lq3 (bX6_swap_51 F (nI s) (nI p) J) F (nI st.1) st.2 (nI (p + 1)) u = J (nI (swI P s c p (P 55 - (p + 1)) st).1) (swI P s c p (P 55 - (p + 1)) st).2 u' ∧ eqG u u' := by
  have q2 := hPg.2.1
  refine lq3_up (n := P 55) (I := fun i x y w => p + 1 ≤ i ∧ x = nI (swI P s c p (i - (p + 1)) st).1 ∧ y = (swI P s c p (i - (p + 1)) st).2 ∧ eqG u w) (Q := fun o => ∃ u' : St, o = J (nI (swI P s c p (P 55 - (p + 1)) st).1) (swI P s c p (P 55 - (p + 1)) st).2 u' ∧ eqG u u') ?_ ?_ (P 55 - (p + 1)) (p + 1) F (nI st.1) st.2 u (by omega) (by omega) ⟨Nat.le_refl _, by rw [Nat.sub_self]; rfl, by rw [Nat.sub_self]; rfl, eqG.rf⟩
  · rintro g x y w ⟨h1, rfl, rfl, hw⟩
    refine ⟨w, ?_, hw⟩
    have e3 : w.1 3 = nI (P 55) := (hw.1 3 (by omega)).trans hX.2.2.2.1
    unfold bX6_swap_51
    rw [e3, if_pos (yle (Nat.le_refl _) (by omega))]
  · rintro g i x y w hi ⟨h1, rfl, rfl, hw⟩
    have e3 : w.1 3 = nI (P 55) := (hw.1 3 (by omega)).trans hX.2.2.2.1
    obtain ⟨w1, w2, w3, k1, k2, k3, k4⟩ := X_sw1 F hF w hc4 hj3 hPg (hX.eq (by omega) hw.x) (show p < i by omega) hi hs
    have b1 := swI_le P s p hst (i - (p + 1))
    have b2 := wd_le (swP P p i) 0 s c
    have ei : swI P s c p (i + 1 - (p + 1)) st = sw1 P s c p i (swI P s c p (i - (p + 1)) st) := by
      rw [show i + 1 - (p + 1) = (i - (p + 1)) + 1 by omega, swI, show p + 1 + (i - (p + 1)) = i by omega]
    refine Or.inr ⟨nI (swI P s c p (i + 1 - (p + 1)) st).1, (swI P s c p (i + 1 - (p + 1)) st).2, w3, ?_, by omega, rfl, rfl, hw.tr k4⟩
    unfold bX6_swap_51
    rw [e3, if_neg (nle hi (by omega)), k1, bd_s, k2, bd_s, k3, bd_s, ei]
    simp only [jn_e, nI_s, tm10, nI_add, vl_e]
    rw [ifle (by omega) (by omega)]
    unfold sw1
    by_cases z : wd (swP P p i) 0 s c ≤ (swI P s c p (i - (p + 1)) st).1
    · rw [if_pos z, if_pos z]
    · rw [if_neg z, if_neg z]
theorem M_swI (F : Nat) (hF : 80 ≤ F) {c jn s p : Nat} {P : Nat → Nat} (J : Int32 → Int32 → St → Option (Int32 × St)) (v : St) (hc4 : c ≤ 4) (hj3 : jn ≤ 3) (hPg : PgOK c jn P) (hM : PgM 0 P v) (hE : MEnv 0 0 0 v) (h0 : v.1 0 = nI c) (hp : p < P 55) (hs : s < 2) {st : Nat × Int32} (hst : st.1 ≤ c) : ∃ v', lq3 (bX7_swap_51 F (nI s) (nI p) J) F (nI st.1) st.2 (nI (p + 1)) v = J (nI (swI P s c p (P 55 - (p + 1)) st).1) (swI P s c p (P 55 - (p + 1)) st).2 v' ∧ eqE v v' := by
  have q2 := hPg.2.1
  have t55 : Int32.toNatClampNeg 55 = 55 := by decide +kernel
  have g55 : inb 55 408 = true := by decide +kernel
  refine lq3_up (n := P 55) (I := fun i x y w => p + 1 ≤ i ∧ x = nI (swI P s c p (i - (p + 1)) st).1 ∧ y = (swI P s c p (i - (p + 1)) st).2 ∧ eqE v w) (Q := fun o => ∃ v' : St, o = J (nI (swI P s c p (P 55 - (p + 1)) st).1) (swI P s c p (P 55 - (p + 1)) st).2 v' ∧ eqE v v') ?_ ?_ (P 55 - (p + 1)) (p + 1) F (nI st.1) st.2 v (by omega) (by omega) ⟨Nat.le_refl _, by rw [Nat.sub_self]; rfl, by rw [Nat.sub_self]; rfl, eqE.rf⟩
  · rintro g x y w ⟨h1, rfl, rfl, hw⟩
    refine ⟨w, ?_, hw⟩
    have e3 : w.2 0 55 = nI (P 55) := (hw.pg hM).g (by omega)
    unfold bX7_swap_51
    rw [g55, gd_true, t55, e3, if_pos (yle (Nat.le_refl _) (by omega))]
  · rintro g i x y w hi ⟨h1, rfl, rfl, hw⟩
    have e3 : w.2 0 55 = nI (P 55) := (hw.pg hM).g (by omega)
    obtain ⟨w1, w2, k1, k0, k2, k4⟩ := M_sw1 F hF w hc4 hj3 hPg (hw.pg hM) (hw.env hE) ((hw.1 0 (by omega)).trans h0) (show p < i by omega) hi hs
    have b1 := swI_le P s p hst (i - (p + 1))
    have b2 := wd_le (swP P p i) 0 s c
    have ei : swI P s c p (i + 1 - (p + 1)) st = sw1 P s c p i (swI P s c p (i - (p + 1)) st) := by
      rw [show i + 1 - (p + 1) = (i - (p + 1)) + 1 by omega, swI, show p + 1 + (i - (p + 1)) = i by omega]
    refine Or.inr ⟨nI (swI P s c p (i + 1 - (p + 1)) st).1, (swI P s c p (i + 1 - (p + 1)) st).2, w2, ?_, by omega, rfl, rfl, hw.tr k4⟩
    have a402 : ∀ a, (402 : Int32) + nI a = nI (402 + a) := fun a => by rw [show (402 : Int32) = nI 402 from rfl, nI_add]
    unfold bX7_swap_51
    rw [g55, gd_true, t55, e3, if_neg (nle hi (by omega)), k1, bd_s, ei, at62, a402, gd_i (by omega) (by omega), gd_i (by omega) (by omega), vl_e, cl (by omega), k0.g (by omega), at62, a402, gd_i (by omega) (by omega), gd_i (by omega) (by omega), vl_e, cl (by omega), sta_h _ _ (by omega), if_neg (by omega), k0.g (by omega), k2, bd_s]
    simp only [jn_e, nI_s, tm10, nI_add, vl_e]
    unfold sw1
    by_cases z : wd (swP P p i) 0 s c ≤ (swI P s c p (i - (p + 1)) st).1
    · rw [if_pos (yle z (by omega)), if_pos (yle z (by omega)), if_pos z]
    · rw [if_neg (nle (by omega) (by omega)), if_neg (nle (by omega) (by omega)), if_neg z]
theorem st_swap (F : Nat) (hLF : 200 ≤ F) {u v : St} (h : RR u v) (x0 x1 : Int32) : ∃ (r : Int32) (u' v' : St), pX6_swap F x0 x1 u = some (r, u') ∧ pX7_swap F x0 x1 v = some (r, v') ∧ RR u' v' := by
  obtain ⟨c, jn, P, ⟨c1, c2, c3, hX, c5, c6, c7⟩, i0, i1, hs, ht, hw, htn, hsh, hc⟩ := id h
  unfold pX6_swap pX7_swap
  rcases two_side x0 with ⟨s, s1, rfl, k, k'⟩ | ⟨k, k'⟩
  · rcases rng x1 (a0 := 0) (b0 := 1) (a1 := 0) (b1 := 1) 0 1 rfl rfl rfl rfl (by omega) (by omega) with ⟨d, d1, d2, rfl, q, q'⟩ | ⟨-, q, q'⟩
    · simp only [k, k', q, q', bd_s, i10, jn_e]
      have q2 := c3.2.1
      obtain ⟨u1, g1, g2⟩ := X_wonD F (by omega) (aw := 0) u c1 c2 c3 hX (by omega) s1
      obtain ⟨v1, m1, m2⟩ := M_wonD F (by omega) (p := 0) v (Or.inl rfl) c1 c2 c3 c7 (menv0 hc) c5 s1
      have g1' : pX6_wonByDocket F (nI s) 0 u = some (nI (wd P 0 s c), u1) := g1
      have m1' : pX7_wonThen F 0 (nI s) v = some (nI (wd P 0 s c), v1) := m1
      have t55 : Int32.toNatClampNeg 55 = 55 := by decide +kernel
      have g55 : inb 55 408 = true := by decide +kernel
      have pX : ∃ u', lq3 (bX6_swap_33 F (nI s) (jX6_swap_124 F (nI d))) F (nI (wd P 0 s c)) (-4) 0 u1 = jX6_swap_124 F (nI d) (nI (swO P s c (P 55)).1) (swO P s c (P 55)).2 u' ∧ eqG u u' := by
        refine lq3_up (n := P 55) (I := fun i x y w => x = nI (swO P s c i).1 ∧ y = (swO P s c i).2 ∧ eqG u w) (Q := fun o => ∃ u' : St, o = jX6_swap_124 F (nI d) (nI (swO P s c (P 55)).1) (swO P s c (P 55)).2 u' ∧ eqG u u') ?_ ?_ (P 55) 0 F _ _ u1 (by omega) (by omega) ⟨rfl, rfl, g2⟩
        · rintro g x y w ⟨rfl, rfl, hw⟩
          refine ⟨w, ?_, hw⟩
          have e3 : w.1 3 = nI (P 55) := (hw.1 3 (by omega)).trans hX.2.2.2.1
          unfold bX6_swap_33
          rw [e3, if_pos (yle (Nat.le_refl _) (by omega))]
        · rintro g i x y w hi ⟨rfl, rfl, hw⟩
          have e3 : w.1 3 = nI (P 55) := (hw.1 3 (by omega)).trans hX.2.2.2.1
          obtain ⟨w', k1, k2⟩ := X_swI F (by omega) (jX6_swap_118 F (nI i) g) w c1 c2 c3 (hX.eq (by omega) hw.x) hi s1 (swO_le P s c i)
          refine Or.inr ⟨nI (swO P s c (i + 1)).1, (swO P s c (i + 1)).2, w', ?_, rfl, rfl, hw.tr k2⟩
          unfold bX6_swap_33
          rw [e3, if_neg (nle hi (by omega)), vl_e, jn_e, nI_s, k1]
          unfold jX6_swap_118
          rw [nI_s, swO]
      have pM : ∃ v', lq3 (bX7_swap_33 F (nI s) (jX7_swap_169 F (nI d))) F (nI (wd P 0 s c)) (-4) 0 v1 = jX7_swap_169 F (nI d) (nI (swO P s c (P 55)).1) (swO P s c (P 55)).2 v' ∧ eqE v v' := by
        refine lq3_up (n := P 55) (I := fun i x y w => x = nI (swO P s c i).1 ∧ y = (swO P s c i).2 ∧ eqE v w) (Q := fun o => ∃ v' : St, o = jX7_swap_169 F (nI d) (nI (swO P s c (P 55)).1) (swO P s c (P 55)).2 v' ∧ eqE v v') ?_ ?_ (P 55) 0 F _ _ v1 (by omega) (by omega) ⟨rfl, rfl, m2.e⟩
        · rintro g x y w ⟨rfl, rfl, hw⟩
          refine ⟨w, ?_, hw⟩
          have e3 : w.2 0 55 = nI (P 55) := (hw.pg c7).g (by omega)
          unfold bX7_swap_33
          rw [g55, gd_true, t55, e3, if_pos (yle (Nat.le_refl _) (by omega))]
        · rintro g i x y w hi ⟨rfl, rfl, hw⟩
          have e3 : w.2 0 55 = nI (P 55) := (hw.pg c7).g (by omega)
          obtain ⟨w', k1, k2⟩ := M_swI F (by omega) (jX7_swap_163 F (nI i) g) w c1 c2 c3 (hw.pg c7) (hw.env (menv0 hc)) ((hw.1 0 (by omega)).trans c5) hi s1 (swO_le P s c i)
          refine Or.inr ⟨nI (swO P s c (i + 1)).1, (swO P s c (i + 1)).2, w', ?_, rfl, rfl, hw.tr k2⟩
          unfold bX7_swap_33
          rw [g55, gd_true, t55, e3, if_neg (nle hi (by omega)), vl_e, jn_e, nI_s, k1]
          unfold jX7_swap_163
          rw [nI_s, swO]
      obtain ⟨u', p1, p2⟩ := pX
      obtain ⟨v', n1, n2⟩ := pM
      rw [g1', m1', bd_s, bd_s, p1, n1]
      unfold jX6_swap_124 jX7_swap_169
      have hR := h.eq p2.x n2.m
      by_cases z : (swO P s c (P 55)).2 = -4
      · rw [if_pos z, if_pos z]; exact ⟨_, _, _, rfl, rfl, hR⟩
      · rw [if_neg z, if_neg z]
        by_cases z' : nI d = 0
        · rw [if_pos z', if_pos z']; exact ⟨_, _, _, rfl, rfl, hR⟩
        · rw [if_neg z', if_neg z']; exact ⟨_, _, _, rfl, rfl, hR⟩
    · simp only [k, k', q, q', bd_s, i10, i00]
      exact ⟨_, _, _, rfl, rfl, h⟩
  · simp only [k, k', bd_s, i00]
    exact ⟨_, _, _, rfl, rfl, h⟩
theorem step_swap {u v : St} (h : RR u v) (x0 x1 : Int32) : ∃ (r : Int32) (u' v' : St), pX6_swap LF x0 x1 u = some (r, u') ∧ pX7_swap LF x0 x1 v = some (r, v') ∧ RR u' v' := st_swap LF (by decide) h x0 x1
