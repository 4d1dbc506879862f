/-! PURE: trials -/
/-- a trial stands as a page has it -/
def TP (P S : Nat → Nat) (cc jj : Nat) (u : St) : Prop := TrX u (P (2 * cc)) (P (8 + 2 * cc)) (P (16 + 2 * cc)) (P (2 * cc + 1)) (P (8 + (2 * cc + 1))) (P (16 + (2 * cc + 1))) (P (40 + jj)) (P (43 + jj)) S
theorem X_prepP (F : Nat) (hF : 30 ≤ F) {c jn cc jj aw : Nat} {P : Nat → Nat} (u : St) (hc4 : c ≤ 4) (hj3 : jn ≤ 3) (hP : PgOK c jn P) (hX : CtX 0 c jn P u) (hc : cc < c) (hj : jj < jn) (ha : aw < 16) :
    ∃ u', pX5_prepare F (nI cc) (nI jj) (nI aw) u = some ((), u') ∧ TP P (stg P aw (P 46)) cc jj u' ∧ eqT u u' := X_prepare F hF u hc4 hj3 hP hX hc hj ha
theorem X_heldP (F : Nat) (hF : 30 ≤ F) {c jn cc jj : Nat} {P S : Nat → Nat} (u : St) (hPg : PgOK c jn P) (hc : cc < c) (hj : jj < jn) (hS : ∀ m, S m < 1000) (h : TP P S cc jj u) :
    ∃ u', pX5_verdictHeld F u = some (nI (hP P S cc jj).1, u') ∧ (u'.2 56 0 = nI (hP P S cc jj).2.2.1 ∧ u'.2 56 1 = nI (hP P S cc jj).2.2.2 ∧ u'.1 26 = nI (hP P S cc jj).2.1) ∧ eqT u u' := by
  have q0 := hPg.2.2.1 (2 * cc) (by omega)
  have q1 := hPg.2.2.1 (2 * cc + 1) (by omega)
  have q2 := hPg.2.2.2.2.1 jj hj
  obtain ⟨w, k1, k2, k3, k4⟩ := X_held F hF u h q0.1 q1.1 (by omega) (by omega) (by omega) (by omega) (by omega) hS q2.2.2
  exact ⟨w, k1, ⟨k2.2.1.1, k2.2.1.2, k3⟩, k4⟩
theorem stg_lt {c jn : Nat} {P : Nat → Nat} (h : PgOK c jn P) (aw m : Nat) : stg P aw (P 46) m < 1000 := by
  have := stg_bd h aw (P 46) (Nat.le_refl _) m
  omega
theorem X_nowP (F : Nat) (hF : 30 ≤ F) {c jn cc jj : Nat} {P : Nat → Nat} (u : St) (hc4 : c ≤ 4) (hj3 : jn ≤ 3) (hPg : PgOK c jn P) (hX : CtX 0 c jn P u) (hc : cc < c) (hj : jj < jn) :
    ∃ u', pX6_verdictNow F (nI cc) (nI jj) u = some (nI (hP P (stg P 0 (P 46)) cc jj).1, u') ∧ eqT u u' := by
  obtain ⟨w, g1, -, -, -, g5⟩ := X_now F hF u hc4 hj3 hPg hX hc hj
  exact ⟨w, g1, g5⟩
/-- what trials leave of the reference -/
def eqR (v v' : St) : Prop := (∀ k, k ≠ 18 → v'.1 k = v.1 k) ∧ (∀ k, k ≠ 0 → v'.2 k = v.2 k) ∧ ∀ i, (i < 272 ∨ 408 ≤ i) → v'.2 0 i = v.2 0 i
theorem eqR.rf {v : St} : eqR v v := ⟨fun _ _ => rfl, fun _ _ => rfl, fun _ _ => rfl⟩
theorem eqR.tr {u w x : St} (h : eqR u w) (h2 : eqR w x) : eqR u x := ⟨fun k q => (h2.1 k q).trans (h.1 k q), fun k q => (h2.2.1 k q).trans (h.2.1 k q), fun k q => (h2.2.2 k q).trans (h.2.2 k q)⟩
theorem eqR.m {v v' : St} (h : eqR v v') : eqM v v' := ⟨fun i hi => h.2.2 i (by omega), ⟨h.1 _ (by omega), h.1 _ (by omega), h.1 _ (by omega), h.1 _ (by omega), h.1 _ (by omega), h.1 _ (by omega), h.1 _ (by omega), h.1 _ (by omega)⟩, fun k hk => h.2.1 k (by omega)⟩
theorem eqR.pg {v v' : St} {P : Nat → Nat} (h : eqR v v') (hM : PgM 0 P v) : PgM 0 P v' := fun k hk => by
  rw [h.2.2 _ (by omega)]
  exact hM k hk
theorem eqR.env {v v' : St} {aw mm ms : Nat} (h : eqR v v') (hE : MEnv aw mm ms v) : MEnv aw mm ms v' := by
  obtain ⟨e1, e2, e3, e4, e5, e6, e7⟩ := hE
  refine ⟨e1, (h.1 15 (by omega)).trans e2, ?_, (h.1 17 (by omega)).trans e4, e5, e6, (h.2.1 1 (by omega)).trans e7⟩
  rw [h.1 16 (by omega)]
  exact e3
theorem M_triesP (F : Nat) (hF : 80 ≤ F) {p c jn aw mm ms cc jj : Nat} {P : Nat → Nat} (v : St) (hp : p < 6) (hp4 : p ≠ 4) (hc4 : c ≤ 4) (hj3 : jn ≤ 3) (hPg : PgOK c jn P) (hM : PgM p P v) (hE : MEnv aw mm ms v) (hc : cc < c) (hj : jj < jn) :
    ∃ v', pX7_tries F (nI (68 * p)) (nI cc) (nI jj) v = some (nI (hP P (stm P aw mm ms (P 46)) cc jj).1, v') ∧ eqR v v' := by
  obtain ⟨v', k1, -, -, k4, k5, k6⟩ := M_tries F hF v hp hp4 hc4 hj3 hPg hM hE hc hj
  exact ⟨v', k1, k4, k5, fun i hi => k6 i (by omega)⟩
theorem M_tries0 (F : Nat) (hF : 80 ≤ F) {c jn cc jj : Nat} {P : Nat → Nat} (v : St) (hc4 : c ≤ 4) (hj3 : jn ≤ 3) (hPg : PgOK c jn P) (hM : PgM 0 P v) (hE : MEnv 0 0 0 v) (hc : cc < c) (hj : jj < jn) :
    ∃ v', pX7_tries F 0 (nI cc) (nI jj) v = some (nI (hP P (stg P 0 (P 46)) cc jj).1, v') ∧ eqR v v' := by
  obtain ⟨v', k1, k2⟩ := M_triesP F hF (p := 0) v (by omega) (by omega) hc4 hj3 hPg hM hE hc hj
  rw [stm_0] at k1
  exact ⟨v', k1, k2⟩
/-- won for a side -/
def wn (P S : Nat → Nat) (cc s jj : Nat) : Bool := decide ((hP P S cc jj).1 = s + 1)
theorem M_isWon (F : Nat) (hF : 80 ≤ F) {p c jn aw mm ms cc jj s : Nat} {P : Nat → Nat} (v : St) (hp : p < 6) (hp4 : p ≠ 4) (hc4 : c ≤ 4) (hj3 : jn ≤ 3) (hPg : PgOK c jn P) (hM : PgM p P v) (hE : MEnv aw mm ms v) (hc : cc < c) (hj : jj < jn) (hs : s < 2) :
    ∃ v', pX7_isWonBy F (nI (68 * p)) (nI cc) (nI s) (nI jj) v = some (if wn P (stm P aw mm ms (P 46)) cc s jj = true then 1 else 0, v') ∧ eqR v v' := by
  obtain ⟨v', k1, k2⟩ := M_triesP F hF v hp hp4 hc4 hj3 hPg hM hE hc hj
  have hb := hP_bd hPg (stm P aw mm ms (P 46)) hc hj
  refine ⟨v', ?_, k2⟩
  unfold pX7_isWonBy wn
  rw [k1, bd_s, nI_s, ifeq (by omega) (by omega)]
  by_cases q : (hP P (stm P aw mm ms (P 46)) cc jj).1 = s + 1
  · rw [if_pos q, if_pos (decide_eq_true q)]
  · rw [if_neg q, if_neg (by simp [q])]
theorem M_isWon0 (F : Nat) (hF : 80 ≤ F) {c jn cc jj s : Nat} {P : Nat → Nat} (v : St) (hc4 : c ≤ 4) (hj3 : jn ≤ 3) (hPg : PgOK c jn P) (hM : PgM 0 P v) (hE : MEnv 0 0 0 v) (hc : cc < c) (hj : jj < jn) (hs : s < 2) :
    ∃ v', pX7_isWonBy F 0 (nI cc) (nI s) (nI jj) v = some (if wn P (stg P 0 (P 46)) cc s jj = true then 1 else 0, v') ∧ eqR v v' := by
  obtain ⟨v', k1, k2⟩ := M_isWon F hF (p := 0) v (by omega) (by omega) hc4 hj3 hPg hM hE hc hj hs
  rw [stm_0] at k1
  exact ⟨v', k1, k2⟩
/-! friends -/
theorem X_judges (F : Nat) (hF : 80 ≤ F) {c jn cc s : Nat} {P : Nat → Nat} (u : St) (hc4 : c ≤ 4) (hj3 : jn ≤ 3) (hPg : PgOK c jn P) (hX : CtX 0 c jn P u) (hc : cc < c) (hs : s < 2) :
    ∃ u', pX6_judgesFor F (nI cc) (nI s) u = some (bI (wn P (stg P 0 (P 46)) cc s) jn, u') ∧ eqT u u' := by
  unfold pX6_judgesFor
  refine lq2_up (n := jn) (I := fun i x w => x = bI (wn P (stg P 0 (P 46)) cc s) i ∧ eqT u w) (Q := fun o => ∃ u' : St, o = some (bI (wn P (stg P 0 (P 46)) cc s) jn, u') ∧ eqT u u') ?_ ?_ jn 0 F 0 u (by omega) (by omega) ⟨rfl, eqT.rf⟩
  · rintro g x w ⟨rfl, hw⟩
    refine ⟨w, ?_, hw⟩
    have h1 : w.1 1 = nI jn := (hw.1 1 (by omega)).trans hX.2.1
    unfold bX6_judgesFor_5
    rw [h1, if_pos (yle (Nat.le_refl _) (by omega))]
  · rintro g i x w hi ⟨rfl, hw⟩
    have h1 : w.1 1 = nI jn := (hw.1 1 (by omega)).trans hX.2.1
    obtain ⟨y, y1, y2⟩ := X_nowP F (by omega) w hc4 hj3 hPg (hX.eq (by omega) hw.x) hc hi
    have hb := hP_bd hPg (stg P 0 (P 46)) hc hi
    refine Or.inr ⟨bI (wn P (stg P 0 (P 46)) cc s) (i + 1), y, ?_, rfl, hw.tr y2⟩
    unfold bX6_judgesFor_5
    rw [h1, if_neg (nle hi (by omega)), y1, bd_s]
    simp only [jn_e, vl_e, nI_s]
    rw [ifeq (by omega) (by omega), bI]
    by_cases q : (hP P (stg P 0 (P 46)) cc i).1 = s + 1
    · rw [if_pos q, if_pos (show wn P (stg P 0 (P 46)) cc s i = true from decide_eq_true q)]
    · rw [if_neg q, if_neg (by unfold wn; simp [q])]
theorem step_friends {u v : St} (h : RR u v) (x0 x1 : Int32) : ∃ (r : Int32) (u' v' : St), pX6_friends LF x0 x1 u = some (r, u') ∧ pX7_friends LF x0 x1 v = some (r, v') ∧ RR u' v' := by
  obtain ⟨c, jn, P, ⟨c1, c2, c3, hX, c5, c6, c7⟩, i0, i1, hs, ht, hw, htn, hsh, hc⟩ := id h
  have hLF : 80 ≤ LF := by decide
  unfold pX6_friends pX6_isFlame pX7_friends
  rcases two_case x0 c1 hX.1 c5 with ⟨a, a1, rfl, e, e'⟩ | ⟨e, e'⟩
  · rcases two_side x1 with ⟨s, s1, rfl, k, k'⟩ | ⟨k, k'⟩
    · simp only [e, e', k, k', bd_s, i10]
      obtain ⟨u', g1, g2⟩ := X_judges LF hLF u c1 c2 c3 hX a1 s1
      have m : ∃ v', lq2 (bX7_friends_22 LF (nI a) (nI s)) LF 0 0 v = some (bI (wn P (stg P 0 (P 46)) a s) jn, v') ∧ eqR v v' := by
        refine lq2_up (n := jn) (I := fun i x w => x = bI (wn P (stg P 0 (P 46)) a s) i ∧ eqR v w) (Q := fun o => ∃ v' : St, o = some (bI (wn P (stg P 0 (P 46)) a s) jn, v') ∧ eqR v v') ?_ ?_ jn 0 LF 0 v (by omega) (by omega) ⟨rfl, eqR.rf⟩
        · rintro g x w ⟨rfl, hw⟩
          refine ⟨w, ?_, hw⟩
          have h1 : w.1 1 = nI jn := (hw.1 1 (by omega)).trans c6
          unfold bX7_friends_22
          rw [h1, if_pos (yle (Nat.le_refl _) (by omega))]
        · rintro g i x w hi ⟨rfl, hw⟩
          have h1 : w.1 1 = nI jn := (hw.1 1 (by omega)).trans c6
          obtain ⟨y, y1, y2⟩ := M_isWon0 LF hLF w c1 c2 c3 (hw.pg c7) (hw.env (menv0 hc)) a1 hi s1
          refine Or.inr ⟨bI (wn P (stg P 0 (P 46)) a s) (i + 1), y, ?_, rfl, hw.tr y2⟩
          unfold bX7_friends_22
          rw [h1, if_neg (nle hi (by omega)), y1, bd_s]
          simp only [jn_e, vl_e, nI_s]
          rw [bI]
          by_cases q : wn P (stg P 0 (P 46)) a s i = true
          · rw [if_pos q, if_pos q, if_neg (show ¬ (1 : Int32) = 0 by decide)]
          · rw [if_neg q, if_neg q, if_pos rfl]
      obtain ⟨v', m1, m2⟩ := m
      rw [g1, m1]
      exact ⟨_, _, _, rfl, rfl, h.eq g2.x m2.m⟩
    · simp only [e, e', k, k', bd_s, i10, i00]
      exact ⟨_, _, _, rfl, rfl, h⟩
  · simp only [e, e', bd_s, i00]
    exact ⟨_, _, _, rfl, rfl, h⟩
/-! the first that fits -/
def FF (q : Nat → Bool) (n : Nat) (r : Int32) : Prop := (∃ i, i < n ∧ q i = true ∧ (∀ m, m < i → q m = false) ∧ r = nI i) ∨ ((∀ m, m < n → q m = false) ∧ r = -4)
theorem FF.un {q : Nat → Bool} {n : Nat} {r r' : Int32} (h : FF q n r) (h' : FF q n r') : r = r' := by
  rcases h with ⟨i, i1, i2, i3, rfl⟩ | ⟨i1, rfl⟩
  · rcases h' with ⟨k, k1, k2, k3, rfl⟩ | ⟨k1, rfl⟩
    · have e : i = k := by
        rcases Nat.lt_trichotomy i k with z | z | z
        · rw [k3 i z] at i2; exact absurd i2 (by decide)
        · exact z
        · rw [i3 k z] at k2; exact absurd k2 (by decide)
      rw [e]
    · rw [k1 i i1] at i2; exact absurd i2 (by decide)
  · rcases h' with ⟨k, k1, k2, k3, rfl⟩ | ⟨k1, rfl⟩
    · rw [i1 k k1] at k2; exact absurd k2 (by decide)
    · rfl
theorem puI {P : Nat → Nat} {k x j : Nat} {y : Int32} (h : y = nI (P j)) (q : Prop) [Decidable q] (hq : q ↔ j = k) : (if q then nI x else y) = nI (pu P k x j) := by
  unfold pu
  by_cases c : j = k
  · rw [if_pos c, if_pos (hq.mpr c)]
  · rw [if_neg c, if_neg (fun z => c (hq.mp z))]
    exact h
/-- a change of a trial -/
theorem X_change (F : Nat) {P S : Nat → Nat} {cc jj s d x : Nat} (u : St) (h : TP P S cc jj u) (hc : cc < 4) (hs : s < 2) (hd : d < 3) : ∃ u', pX5_change F (nI s) (nI d) (nI x) u = some ((), u') ∧ TP (pu P (8 * d + (2 * cc + s)) x) S cc jj u' ∧ eqT u u' := by
  obtain ⟨⟨h1, h2⟩, ⟨h3, h4⟩, ⟨h5, h6⟩, h7, h8, h9⟩ := h
  have q : d = 0 ∨ d = 1 ∨ d = 2 := by omega
  refine ⟨sta u (55 + d) (nI s) (nI x), ?_, ?_, fun k hk => rfl, fun k hk => sta_m _ _ _ (by omega)⟩
  · unfold pX5_change
    rcases q with rfl | rfl | rfl
    · rw [if_pos (show nI 0 = 0 from rfl), gd_i hs (by omega), vl_e]
      try rfl
    · rw [if_neg (show ¬ nI 1 = 0 by decide), if_pos (show nI 1 = 1 from rfl), gd_i hs (by omega), vl_e]
      try rfl
    · rw [if_neg (show ¬ nI 2 = 0 by decide), if_neg (show ¬ nI 2 = 1 by decide), gd_i hs (by omega), vl_e]
      try rfl
  · refine ⟨⟨?_, ?_⟩, ⟨?_, ?_⟩, ⟨?_, ?_⟩, fun m hm => ?_, ?_, ?_⟩
    · exact cellG h1 (by omega) (by omega)
    · exact cellG h2 (by omega) (by omega)
    · exact cellG h3 (by omega) (by omega)
    · exact cellG h4 (by omega) (by omega)
    · exact cellG h5 (by omega) (by omega)
    · exact cellG h6 (by omega) (by omega)
    · rw [sta_m _ _ _ (by omega)]; exact h7 m hm
    · rw [pu_n P (by omega)]; exact h8
    · rw [pu_n P (by omega)]; exact h9
theorem stg_pu (P : Nat → Nat) {k x : Nat} (hk : k < 46) (aw : Nat) : ∀ n m, stg (pu P k x) aw n m = stg P aw n m
  | 0, m => rfl
  | n + 1, m => by
    unfold stg
    rw [stg_pu P hk aw n m, pu_n P (by omega), pu_n P (by omega)]
theorem stg_pu46 (P : Nat → Nat) {k x : Nat} (hk : k < 46) (aw : Nat) : stg (pu P k x) aw (pu P k x 46) = stg P aw (P 46) := by
  funext m
  rw [pu_n P (by omega), stg_pu P hk]
def mst (d : Nat) : Nat := if d = 0 then 3 else if d = 1 then 99 else 9
theorem X_least (F : Nat) (hF : 200 ≤ F) {c jn a b s d : Nat} {P : Nat → Nat} (u : St) (hc4 : c ≤ 4) (hj3 : jn ≤ 3) (hPg : PgOK c jn P) (hX : CtX 0 c jn P u) (ha : a < c) (hb : b < jn) (hs : s < 2) (hd : d < 3) : ∃ r u', lq1 (bX6_firstThatWins_25 F (nI a) (nI s) (nI b) (nI d)) F 0 u = some (r, u') ∧ FF (fun x => wn (pu P (8 * d + (2 * a + s)) x) (stg P 0 (P 46)) a s b) (mst d + 1) r ∧ eqT u u' := by
  have hm : mst d < 100 := by unfold mst; split <;> (try split) <;> omega
  have ht : tabFLAME_BOUNDS (Int32.toNatClampNeg (nI d)) = nI (mst d) := by
    have q : d = 0 ∨ d = 1 ∨ d = 2 := by omega
    rcases q with rfl | rfl | rfl <;> decide +kernel
  refine lq1_up (n := mst d + 1) (I := fun i w => (∀ m, m < i → wn (pu P (8 * d + (2 * a + s)) m) (stg P 0 (P 46)) a s b = false) ∧ eqT u w) (Q := fun o => ∃ (r : Int32) (u' : St), o = some (r, u') ∧ FF (fun x => wn (pu P (8 * d + (2 * a + s)) x) (stg P 0 (P 46)) a s b) (mst d + 1) r ∧ eqT u u') ?_ ?_ (mst d + 1) 0 F u (by omega) (by omega) ⟨fun m hm => by omega, eqT.rf⟩
  · rintro g w ⟨h1, hw⟩
    refine ⟨-4, w, ?_, Or.inr ⟨h1, rfl⟩, hw⟩
    unfold bX6_firstThatWins_25
    rw [gd_i (by omega) (by omega), ht, if_pos (ylt (by omega) (by omega))]
  · rintro g i w hi ⟨h1, hw⟩
    have hi9 : i ≤ mst d := by omega
    obtain ⟨y, y1, y2, y3⟩ := X_prepP F (by omega) w hc4 hj3 hPg (hX.eq (by omega) hw.x) ha hb (aw := 0) (by omega)
    obtain ⟨z, z1, z2, z3⟩ := X_change F (s := s) (d := d) (x := i) y y2 (by omega) hs hd
    have hk : PgOK c jn (pu P (8 * d + (2 * a + s)) i) := by
      unfold mst at hi9
      refine hPg.put hc4 hj3 (by omega) ?_ ?_ ?_ (by omega) (by omega) (by omega) (by omega) (by omega) <;> split at hi9 <;> (try split at hi9) <;> omega
    obtain ⟨t, t1, -, t3⟩ := X_heldP F (by omega) z hk ha hb (fun m => stg_lt hPg 0 m) z2
    have hbd := hP_bd hk (stg P 0 (P 46)) ha hb
    have hrun : bX6_firstThatWins_25 F (nI a) (nI s) (nI b) (nI d) g (nI i) w = if (hP (pu P (8 * d + (2 * a + s)) i) (stg P 0 (P 46)) a b).1 = s + 1 then some (nI i, t) else g (nI (i + 1)) t := by
      unfold bX6_firstThatWins_25 pX6_prepare
      rw [gd_i (by omega) (by omega), ht, if_neg (nlt hi9 (by omega)), show (0 : Int32) = nI 0 from rfl, y1]
      simp only [bd_s]
      rw [z1, bd_s, t1, bd_s, nI_s, nI_s, ifeq (by omega) (by omega)]
    by_cases q : (hP (pu P (8 * d + (2 * a + s)) i) (stg P 0 (P 46)) a b).1 = s + 1
    · refine Or.inl ⟨nI i, t, ?_, Or.inl ⟨i, hi, decide_eq_true q, h1, rfl⟩, ((hw.tr y3).tr z3).tr t3⟩
      rw [hrun, if_pos q]
    · refine Or.inr ⟨t, ?_, fun m hm => ?_, ((hw.tr y3).tr z3).tr t3⟩
      · rw [hrun, if_neg q]
      · by_cases z : m = i
        · rw [z]; exact decide_eq_false q
        · exact h1 m (by omega)
/-- the reference's other page: a copy with one number changed -/
theorem M_other (F : Nat) (hF : 80 ≤ F) {P : Nat → Nat} (v : St) (hM : PgM 0 P v) : ∃ w, pX7_copies F 0 340 v = some ((), w) ∧ PgM 5 P w ∧ eqR v w := by
  obtain ⟨w, g1, g2, g3, g4, g5⟩ := M_copies F hF (p := 0) (q := 5) (by omega) (by omega) (by omega) v
  exact ⟨w, g1, fun k hk => (g4 k hk).trans (hM k hk), fun k hk => by rw [g2], g3, fun i hi => g5 i (by omega)⟩
theorem pg5 {P : Nat → Nat} {v : St} (h : PgM 5 P v) {k x : Nat} (hk : k < 68) : PgM 5 (pu P k x) (sta v 0 (nI (340 + k)) (nI x)) := fun j hj => by
  rw [sta_h _ _ (by omega)]
  by_cases q : j = k
  · subst q
    rw [if_pos (by omega), pu_s]
  · rw [if_neg (by omega), pu_n P q]
    exact h j hj
theorem eqR.st5 {v w : St} (h : eqR v w) {k : Nat} (hk : k < 68) (x : Int32) : eqR v (sta w 0 (nI (340 + k)) x) := ⟨fun k hk => h.1 k hk, fun k hk => by rw [sta_m _ _ _ hk]; exact h.2.1 k hk, fun i hi => by rw [sta_h _ _ (by omega), if_neg (by omega)]; exact h.2.2 i hi⟩
theorem M_least (F : Nat) (hF : 200 ≤ F) {c jn a b s d : Nat} {P : Nat → Nat} (v : St) (hc4 : c ≤ 4) (hj3 : jn ≤ 3) (hPg : PgOK c jn P) (hM : PgM 0 P v) (hE : MEnv 0 0 0 v) (ha : a < c) (hb : b < jn) (hs : s < 2) (hd : d < 3) : ∃ r v', lq1 (bX7_leastOf_21 F (nI a) (nI s) (nI b) (nI (8 * d)) (nI (mst d))) F 0 v = some (r, v') ∧ FF (fun x => wn (pu P (8 * d + (2 * a + s)) x) (stg P 0 (P 46)) a s b) (mst d + 1) r ∧ eqR v v' := by
  have hm : mst d < 100 := by unfold mst; split <;> (try split) <;> omega
  refine lq1_up (n := mst d + 1) (I := fun i w => (∀ m, m < i → wn (pu P (8 * d + (2 * a + s)) m) (stg P 0 (P 46)) a s b = false) ∧ eqR v w) (Q := fun o => ∃ (r : Int32) (v' : St), o = some (r, v') ∧ FF (fun x => wn (pu P (8 * d + (2 * a + s)) x) (stg P 0 (P 46)) a s b) (mst d + 1) r ∧ eqR v v') ?_ ?_ (mst d + 1) 0 F v (by omega) (by omega) ⟨fun m hm => by omega, eqR.rf⟩
  · rintro g w ⟨h1, hw⟩
    refine ⟨-4, w, ?_, Or.inr ⟨h1, rfl⟩, hw⟩
    unfold bX7_leastOf_21
    rw [if_pos (ylt (by omega) (by omega))]
  · rintro g i w hi ⟨h1, hw⟩
    have hi9 : i ≤ mst d := by omega
    obtain ⟨y, y1, y2, y3⟩ := M_other F (by omega) w (hw.pg hM)
    have hk : PgOK c jn (pu P (8 * d + (2 * a + s)) i) := by
      unfold mst at hi9
      refine hPg.put hc4 hj3 (by omega) ?_ ?_ ?_ (by omega) (by omega) (by omega) (by omega) (by omega) <;> split at hi9 <;> (try split at hi9) <;> omega
    have e0 := (hw.tr y3).st5 (k := 8 * d + (2 * a + s)) (by omega) (nI i)
    obtain ⟨t, t1, t2⟩ := M_isWon F (by omega) (p := 5) (sta y 0 (nI (340 + (8 * d + (2 * a + s)))) (nI i)) (by omega) (by omega) hc4 hj3 hk (pg5 y2 (k := 8 * d + (2 * a + s)) (x := i) (by omega)) (e0.env hE) ha hb hs
    rw [stm_0, stg_pu46 P (by omega)] at t1
    have hrun : bX7_leastOf_21 F (nI a) (nI s) (nI b) (nI (8 * d)) (nI (mst d)) g (nI i) w = if wn (pu P (8 * d + (2 * a + s)) i) (stg P 0 (P 46)) a s b = true then some (nI i, t) else g (nI (i + 1)) t := by
      unfold bX7_leastOf_21
      rw [if_neg (nlt hi9 (by omega)), y1, bd_s, L340, tm2, nI_add, nI_add, nI_add, gd_i (by omega) (by omega), vl_e, show 340 + 8 * d + 2 * a + s = 340 + (8 * d + (2 * a + s)) by omega, show nI 340 = nI (68 * 5) from rfl, t1, bd_s, nI_s]
      by_cases q : wn (pu P (8 * d + (2 * a + s)) i) (stg P 0 (P 46)) a s b = true
      · rw [if_pos q, if_pos q, if_neg (show ¬ (1 : Int32) = 0 by decide)]
      · rw [if_neg q, if_neg q, if_pos rfl]
    by_cases q : wn (pu P (8 * d + (2 * a + s)) i) (stg P 0 (P 46)) a s b = true
    · refine Or.inl ⟨nI i, t, ?_, Or.inl ⟨i, hi, q, h1, rfl⟩, e0.tr t2⟩
      rw [hrun, if_pos q]
    · refine Or.inr ⟨t, ?_, fun m hm => ?_, e0.tr t2⟩
      · rw [hrun, if_neg q]
      · by_cases z : m = i
        · rw [z]; exact Bool.eq_false_iff.mpr q
        · exact h1 m (by omega)
theorem step_lst {u v : St} (h : RR u v) (x0 x1 x2 : Int32) {d : Nat} (hd : d < 3) : ∃ (r : Int32) (u' v' : St), pX6_firstThatWins LF x0 x1 x2 (nI d) u = some (r, u') ∧ pX7_leastOf LF x0 x1 x2 (nI (8 * d)) (nI (mst d)) v = some (r, v') ∧ RR u' v' := by
  obtain ⟨c, jn, P, ⟨c1, c2, c3, hX, c5, c6, c7⟩, i0, i1, hs, ht, hw, htn, hsh, hc⟩ := id h
  unfold pX6_firstThatWins pX6_isFlame pX7_leastOf pX7_isHeard
  rcases two_case x0 c1 hX.1 c5 with ⟨a, a1, rfl, e, e'⟩ | ⟨e, e'⟩
  · rcases two_judge x2 c2 hX.2.1 c6 with ⟨b, b1, rfl, k, k'⟩ | ⟨k, k'⟩
    · rcases two_side x1 with ⟨s, s1, rfl, q, q'⟩ | ⟨q, q'⟩
      · simp only [e, e', k, k', q, q', bd_s, i10]
        obtain ⟨r, u', g1, g2, g3⟩ := X_least LF (by decide) u c1 c2 c3 hX a1 b1 s1 hd
        obtain ⟨r', v', m1, m2, m3⟩ := M_least LF (by decide) v c1 c2 c3 c7 (menv0 hc) a1 b1 s1 hd
        have er := g2.un m2
        subst er
        exact ⟨r, u', v', g1, m1, h.eq g3.x m3.m⟩
      · simp only [e, e', k, k', q, q', bd_s, i10, i00]
        exact ⟨_, _, _, rfl, rfl, h⟩
    · rcases two_side x1 with ⟨s, s1, rfl, q, q'⟩ | ⟨q, q'⟩
      · simp only [e, e', k, k', q, q', bd_s, i10, i00]
        exact ⟨_, _, _, rfl, rfl, h⟩
      · simp only [e, e', k, k', q, q', bd_s, i10, i00]
        exact ⟨_, _, _, rfl, rfl, h⟩
  · simp only [e, e', bd_s, i00]
    exact ⟨_, _, _, rfl, rfl, h⟩
theorem step_wax {u v : St} (h : RR u v) (x0 x1 x2 : Int32) : ∃ (r : Int32) (u' v' : St), pX6_wax LF x0 x1 x2 u = some (r, u') ∧ pX7_wax LF x0 x1 x2 v = some (r, v') ∧ RR u' v' := by
  obtain ⟨r, u', v', g, m, q⟩ := step_lst h x0 x1 x2 (d := 0) (by omega)
  refine ⟨r, u', v', ?_, ?_, q⟩
  · unfold pX6_wax
    rw [show (0 : Int32) = nI 0 from rfl, g, bd_s]
  · unfold pX7_wax
    rw [show (0 : Int32) = nI (8 * 0) from rfl, show (3 : Int32) = nI (mst 0) from rfl, m, bd_s]
theorem step_least {u v : St} (h : RR u v) (x0 x1 x2 : Int32) : ∃ (r : Int32) (u' v' : St), pX6_least LF x0 x1 x2 u = some (r, u') ∧ pX7_least LF x0 x1 x2 v = some (r, v') ∧ RR u' v' := by
  obtain ⟨r, u', v', g, m, q⟩ := step_lst h x0 x1 x2 (d := 1) (by omega)
  refine ⟨r, u', v', ?_, ?_, q⟩
  · unfold pX6_least
    rw [show (1 : Int32) = nI 1 from rfl, g, bd_s]
  · unfold pX7_least
    rw [show (8 : Int32) = nI (8 * 1) from rfl, show (99 : Int32) = nI (mst 1) from rfl, m, bd_s]
theorem step_hand {u v : St} (h : RR u v) (x0 x1 x2 : Int32) : ∃ (r : Int32) (u' v' : St), pX6_hand LF x0 x1 x2 u = some (r, u') ∧ pX7_hand LF x0 x1 x2 v = some (r, v') ∧ RR u' v' := by
  obtain ⟨r, u', v', g, m, q⟩ := step_lst h x0 x1 x2 (d := 2) (by omega)
  refine ⟨r, u', v', ?_, ?_, q⟩
  · unfold pX6_hand
    rw [show (2 : Int32) = nI 2 from rfl, g, bd_s]
  · unfold pX7_hand
    rw [show (16 : Int32) = nI (8 * 2) from rfl, show (9 : Int32) = nI (mst 2) from rfl, m, bd_s]
