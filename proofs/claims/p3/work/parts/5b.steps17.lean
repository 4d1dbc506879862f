/-! PURE: share -/
def dn (q : Nat → Bool) : Nat → Nat → Nat
  | 0, m => m
  | k + 1, m => dn q k (if q k = true then k else m)
theorem dn_lt (q : Nat → Bool) {n : Nat} : ∀ k m, k ≤ n → m < n → dn q k m < n
  | 0, m, _, h => h
  | k + 1, m, h1, h2 => by
    unfold dn
    refine dn_lt q k _ (by omega) ?_
    split <;> omega
def tz (k : Nat) : Nat := if k % 2 = 1 then 0 else if k % 4 = 2 then 1 else 2
theorem bN_dn (q : Nat → Bool) : ∀ n, 0 < n → n ≤ 3 → (bN q n = 0 → dn q n 0 = 0) ∧ (bN q n ≠ 0 → dn q n 0 = tz (bN q n)) ∧ q (dn q n 0) = decide (bN q n ≠ 0) ∧ bN q n < 8
  | 0, h, _ => by omega
  | 1, _, _ => by
    rcases h0 : q 0 with _ | _ <;> simp [bN, dn, h0, tz]
  | 2, _, _ => by
    rcases h0 : q 0 with _ | _ <;> rcases h1 : q 1 with _ | _ <;> simp [bN, dn, h0, h1, tz]
  | 3, _, _ => by
    rcases h0 : q 0 with _ | _ <;> rcases h1 : q 1 with _ | _ <;> rcases h2 : q 2 with _ | _ <;> simp [bN, dn, h0, h1, h2, tz]
  | n + 4, _, h => by omega
theorem ntz_v : ∀ k, k < 8 → 0 < k → ((nI k ^^^ (-1)) &&& (nI k - 1)) = nI (2 ^ tz k - 1) := by decide +kernel
theorem tz_3 (k : Nat) : tz k = 0 ∨ tz k = 1 ∨ tz k = 2 := by
  unfold tz
  split
  · exact Or.inl rfl
  · split
    · exact Or.inr (Or.inl rfl)
    · exact Or.inr (Or.inr rfl)
theorem X_ntz (F : Nat) (u : St) {k : Nat} (h1 : k < 8) (h2 : 0 < k) : pJ6_numberOfTrailingZeros_0f7a4 F (nI k) u = some (nI (tz k), u) := by
  unfold pJ6_numberOfTrailingZeros_0f7a4
  rw [ntz_v k h1 h2]
  simp only [vl_e, jn_e]
  rcases tz_3 k with q | q | q
  · rw [q, if_neg (show ¬ (0 : Int32) < nI (2 ^ 0 - 1) by decide +kernel), show (nI (2 ^ 0 - 1) &&& 32) = nI 0 from by decide +kernel]
  · rw [q, if_pos (show (0 : Int32) < nI (2 ^ 1 - 1) by decide +kernel), if_pos (show nI (2 ^ 1 - 1) ≤ 65536 by decide +kernel), if_pos (show nI (2 ^ 1 - 1) ≤ 256 by decide +kernel), if_pos (show nI (2 ^ 1 - 1) ≤ 16 by decide +kernel), if_pos (show nI (2 ^ 1 - 1) ≤ 4 by decide +kernel), show (1 : Int32) + ushr (nI (2 ^ 1 - 1)) 1 = nI 1 from by decide +kernel]
  · rw [q, if_pos (show (0 : Int32) < nI (2 ^ 2 - 1) by decide +kernel), if_pos (show nI (2 ^ 2 - 1) ≤ 65536 by decide +kernel), if_pos (show nI (2 ^ 2 - 1) ≤ 256 by decide +kernel), if_pos (show nI (2 ^ 2 - 1) ≤ 16 by decide +kernel), if_pos (show nI (2 ^ 2 - 1) ≤ 4 by decide +kernel), show (1 : Int32) + ushr (nI (2 ^ 2 - 1)) 1 = nI 2 from by decide +kernel]
def qw (P : Nat → Nat) (jn s cc : Nat) : Bool := decide (P (24 + cc) = 0) && decide (bN (wn P (stg P 0 (P 46)) cc s) jn ≠ 0)
def bst (P : Nat → Nat) (jn s cc : Nat) : Int32 := if P (24 + cc) = 0 then nI (dn (wn P (stg P 0 (P 46)) cc s) jn 0) else -4
theorem X_may (F : Nat) (hF : 80 ≤ F) {c jn s : Nat} {P : Nat → Nat} (u : St) (hc4 : c ≤ 4) (hj3 : jn ≤ 3) (hPg : PgOK c jn P) (hX : CtX 0 c jn P u) (hs : s < 2) : ∃ u', pX6_casesThatMayBeWon F (nI s) u = some (nI (cn (qw P jn s) c), u') ∧ eqT u u' := by
  unfold pX6_casesThatMayBeWon
  refine lq2_up (n := c) (I := fun i x w => x = nI (cn (qw P jn s) i) ∧ eqT u w) (Q := fun o => ∃ u' : St, o = some (nI (cn (qw P jn s) c), u') ∧ eqT u u') ?_ ?_ c 0 F 0 u (by omega) (by omega) ⟨rfl, eqT.rf⟩
  · rintro g x w ⟨rfl, hw⟩
    refine ⟨w, ?_, hw⟩
    have h1 : w.1 0 = nI c := (hw.1 0 (by omega)).trans hX.1
    unfold bX6_casesThatMayBeWon_4
    rw [h1, if_pos (yle (Nat.le_refl _) (by omega))]
  · rintro g i x w hi ⟨rfl, hw⟩
    have h1 : w.1 0 = nI c := (hw.1 0 (by omega)).trans hX.1
    have hX' := hX.eq (by omega) hw.x
    have h3 : w.2 3 i = nI (P (24 + i)) := (hX'.2.2.2.2.2.1 i hi).1
    have hb := (hPg.2.2.2.1 i hi).1
    obtain ⟨y, y1, y2⟩ := X_judges F hF w hc4 hj3 hPg hX' hi hs
    obtain ⟨k1, k2, -⟩ := bI_k (wn P (stg P 0 (P 46)) i s) jn (by omega)
    rw [k1] at y1
    by_cases q : P (24 + i) = 0
    · refine Or.inr ⟨nI (cn (qw P jn s) (i + 1)), y, ?_, rfl, hw.tr y2⟩
      unfold bX6_casesThatMayBeWon_4
      rw [h1, if_neg (nle hi (by omega)), gd_i (by omega) (by omega), cl (by omega), h3, q]
      simp only [jn_e, vl_e]
      rw [if_pos (show nI 0 = 0 from rfl), y1, bd_s, nI_s, cn]
      unfold qw
      rw [decide_eq_true q, Bool.true_and]
      by_cases z : bN (wn P (stg P 0 (P 46)) i s) jn = 0
      · rw [z, if_pos (show nI 0 = 0 from rfl), if_neg (by decide), show nI (cn (fun cc => decide (P (24 + cc) = 0) && decide (bN (wn P (stg P 0 (P 46)) cc s) jn ≠ 0)) i) + 0 = nI (cn (fun cc => decide (P (24 + cc) = 0) && decide (bN (wn P (stg P 0 (P 46)) cc s) jn ≠ 0)) i + 0) from by rw [L0, nI_add]]
      · rw [if_neg (n0f z (by omega)), if_pos (decide_eq_true z), nI_s]
    · refine Or.inr ⟨nI (cn (qw P jn s) (i + 1)), w, ?_, rfl, hw⟩
      unfold bX6_casesThatMayBeWon_4
      rw [h1, if_neg (nle hi (by omega)), gd_i (by omega) (by omega), cl (by omega), h3]
      simp only [jn_e, vl_e]
      rw [if_neg (n0f q (by omega)), nI_s, cn]
      have e : qw P jn s i = false := by
        unfold qw
        rw [decide_eq_false q, Bool.false_and]
      rw [e, if_neg (by decide), L0, nI_add]
theorem X_best (F : Nat) (hF : 80 ≤ F) {c jn s a : Nat} {P : Nat → Nat} (u : St) (hc4 : c ≤ 4) (hj3 : jn ≤ 3) (hj0 : 0 < jn) (hPg : PgOK c jn P) (hX : CtX 0 c jn P u) (ha : a < c) (hs : s < 2) : ∃ u', pX6_bestJudge F (nI a) (nI s) u = some (bst P jn s a, u') ∧ eqT u u' := by
  have h3 : u.2 3 a = nI (P (24 + a)) := (hX.2.2.2.2.2.1 a ha).1
  have hb := (hPg.2.2.2.1 a ha).1
  obtain ⟨y, y1, y2⟩ := X_judges F hF u hc4 hj3 hPg hX ha hs
  obtain ⟨k1, k2, -⟩ := bI_k (wn P (stg P 0 (P 46)) a s) jn (by omega)
  obtain ⟨d1, d2, d3, d4⟩ := bN_dn (wn P (stg P 0 (P 46)) a s) jn hj0 hj3
  rw [k1] at y1
  unfold pX6_bestJudge bst
  rw [gd_i (by omega) (by omega), cl (by omega), h3]
  by_cases q : P (24 + a) = 0
  · refine ⟨y, ?_, y2⟩
    rw [q, if_pos (show nI 0 = 0 from rfl), if_pos rfl, y1, bd_s]
    by_cases z : bN (wn P (stg P 0 (P 46)) a s) jn = 0
    · rw [d1 z, z, if_pos (show nI 0 = 0 from rfl)]; rfl
    · rw [if_neg (n0f z (by omega)), X_ntz F y d4 (by omega), bd_s, d2 z]
  · refine ⟨u, ?_, eqT.rf⟩
    rw [if_neg (n0f q (by omega)), if_neg q]
theorem M_dn (F : Nat) (hF : 80 ≤ F) {c jn a s : Nat} {P : Nat → Nat} (v : St) (J : Int32 → St → Option (Int32 × St)) (hc4 : c ≤ 4) (hj3 : jn ≤ 3) (hPg : PgOK c jn P) (hM : PgM 0 P v) (hE : MEnv 0 0 0 v) (ha : a < c) (hs : s < 2) : ∀ (k f m : Nat) (w : St), k < f → k ≤ jn → m < 1000 → eqR v w → ∃ w', lq2 (bX7_share_89 F (nI s) (nI a) J) f (nI m) (nI k - 1) w = J (nI (dn (wn P (stg P 0 (P 46)) a s) k m)) w' ∧ eqR v w'
  | k, 0, m, w, h1, h2, h3, h4 => by omega
  | 0, f + 1, m, w, h1, h2, h3, h4 => by
    refine ⟨w, ?_, h4⟩
    rw [lq2_s]
    unfold bX7_share_89
    rw [if_pos (show nI 0 - 1 < (0 : Int32) by decide)]
    rfl
  | k + 1, f + 1, m, w, h1, h2, h3, h4 => by
    obtain ⟨t, t1, t2⟩ := M_isWon0 F hF (jj := k) w hc4 hj3 hPg (h4.pg hM) (h4.env hE) ha (by omega) hs
    obtain ⟨w', g1, g2⟩ := M_dn F hF v J hc4 hj3 hPg hM hE ha hs k f (if wn P (stg P 0 (P 46)) a s k = true then k else m) t (by omega) (by omega) (by split <;> omega) (h4.tr t2)
    refine ⟨w', ?_, g2⟩
    rw [lq2_s]
    generalize lq2 (bX7_share_89 F (nI s) (nI a) J) f = self at g1 ⊢
    unfold bX7_share_89
    rw [show nI (k + 1) - 1 = nI k from by rw [L1, subI (by omega)]; rfl, if_neg (show ¬ nI k < (0 : Int32) from by rw [L0]; exact nlt (by omega) (by omega)), if_neg (m4_lt (by omega)).2.1, t1, bd_s, ← Int32.sub_eq_add_neg]
    simp only [jn_e]
    rw [dn]
    by_cases q : wn P (stg P 0 (P 46)) a s k = true
    · rw [if_pos q] at g1 ⊢
      rw [if_neg (show ¬ (1 : Int32) = 0 by decide), if_pos q]
      exact g1
    · rw [if_neg q] at g1 ⊢
      rw [if_pos rfl, if_neg q]
      exact g1
def asg (P : Nat → Nat) (jn s : Nat) (x : Int32) : Nat → Int32
  | 0 => -4
  | i + 1 => if x - 10 = nI i then bst P jn s i else asg P jn s x i
theorem asg_e (P : Nat → Nat) (jn s : Nat) {a : Nat} : ∀ n, a < n → n < 1000 → asg P jn s (nI (10 + a)) n = bst P jn s a
  | 0, h, _ => by omega
  | n + 1, h, hn => by
    unfold asg
    rw [show nI (10 + a) - 10 = nI a from by rw [L10, subI (by omega), show 10 + a - 10 = a by omega]]
    by_cases q : a = n
    · rw [if_pos (by rw [q]), q]
    · rw [if_neg (neI q (by omega) (by omega)), asg_e P jn s n (by omega) (by omega)]
theorem M_shareL (F : Nat) (hF : 80 ≤ F) {c jn s : Nat} {P : Nat → Nat} (v : St) (x : Int32) (J : Int32 → Int32 → St → Option (Int32 × St)) (hc4 : c ≤ 4) (hj3 : jn ≤ 3) (hj0 : 0 < jn) (hPg : PgOK c jn P) (hM : PgM 0 P v) (hE : MEnv 0 0 0 v) (h0 : v.1 0 = nI c) (hj : v.1 1 = nI jn) (hs : s < 2) : ∃ v', lq3 (bX7_share_51 F (nI s) x J) F 0 (-4) 0 v = J (nI (cn (qw P jn s) c)) (asg P jn s x c) v' ∧ eqR v v' := by
  refine lq3_up (n := c) (I := fun i y z w => y = nI (cn (qw P jn s) i) ∧ z = asg P jn s x i ∧ eqR v w) (Q := fun o => ∃ v' : St, o = J (nI (cn (qw P jn s) c)) (asg P jn s x c) v' ∧ eqR v v') ?_ ?_ c 0 F 0 (-4) v (by omega) (by omega) ⟨rfl, rfl, eqR.rf⟩
  · rintro g y z w ⟨rfl, rfl, hw⟩
    refine ⟨w, ?_, hw⟩
    have h1 : w.1 0 = nI c := (hw.1 0 (by omega)).trans h0
    unfold bX7_share_51
    rw [h1, if_pos (yle (Nat.le_refl _) (by omega))]
  · rintro g i y z w hi ⟨rfl, rfl, hw⟩
    have h1 : w.1 0 = nI c := (hw.1 0 (by omega)).trans h0
    have h2 : w.1 1 = nI jn := (hw.1 1 (by omega)).trans hj
    have hM' := hw.pg hM
    have hb := (hPg.2.2.2.1 i hi).1
    obtain ⟨d1, d2, d3, d4⟩ := bN_dn (wn P (stg P 0 (P 46)) i s) jn hj0 hj3
    have hd := dn_lt (wn P (stg P 0 (P 46)) i s) (n := jn) jn 0 (Nat.le_refl _) hj0
    by_cases q : P (24 + i) = 0
    · obtain ⟨t, t1, t2⟩ := M_dn F hF v (jX7_share_129 F (nI s) x (nI (cn (qw P jn s) i)) (asg P jn s x i) (nI i) g) hc4 hj3 hPg hM hE hi hs jn F 0 w (by omega) (Nat.le_refl _) (by omega) hw
      obtain ⟨r, r1, r2⟩ := M_isWon0 F hF (jj := dn (wn P (stg P 0 (P 46)) i s) jn 0) t hc4 hj3 hPg (t2.pg hM) (t2.env hE) hi hd hs
      refine Or.inr ⟨nI (cn (qw P jn s) (i + 1)), asg P jn s x (i + 1), r, ?_, rfl, rfl, t2.tr r2⟩
      unfold bX7_share_51
      rw [h1, if_neg (nle hi (by omega)), at24, gd_i (by omega) (by omega), cl (by omega), hM'.g (by omega), q]
      simp only [jn_e, vl_e, h2]
      have t1' : lq2 (bX7_share_89 F (nI s) (nI i) (jX7_share_129 F (nI s) x (nI (cn (qw P jn s) i)) (asg P jn s x i) (nI i) g)) F 0 (nI jn - 1) w = jX7_share_129 F (nI s) x (nI (cn (qw P jn s) i)) (asg P jn s x i) (nI i) g (nI (dn (wn P (stg P 0 (P 46)) i s) jn 0)) t := t1
      rw [if_pos (show nI 0 = 0 from rfl), t1']
      unfold jX7_share_129
      simp only [jn_e, vl_e, nI_s]
      rw [if_neg (m4_lt (by omega)).2.1, r1, bd_s, cn, asg]
      have eb : bst P jn s i = nI (dn (wn P (stg P 0 (P 46)) i s) jn 0) := by
        unfold bst
        rw [if_pos q]
      have eq : qw P jn s i = wn P (stg P 0 (P 46)) i s (dn (wn P (stg P 0 (P 46)) i s) jn 0) := by
        unfold qw
        rw [decide_eq_true q, Bool.true_and, d3]
      rw [eb, eq]
      by_cases z : wn P (stg P 0 (P 46)) i s (dn (wn P (stg P 0 (P 46)) i s) jn 0) = true
      · rw [if_pos z, if_pos z, if_neg (show ¬ (1 : Int32) = 0 by decide)]
        by_cases o : x - 10 = nI i
        · rw [if_pos o, if_pos o]
        · rw [if_neg o, if_neg o]
      · rw [if_neg z, if_neg z, if_pos rfl, show nI (cn (qw P jn s) i) + 0 = nI (cn (qw P jn s) i + 0) from by rw [L0, nI_add]]
        by_cases o : x - 10 = nI i
        · rw [if_pos o, if_pos o]
        · rw [if_neg o, if_neg o]
    · refine Or.inr ⟨nI (cn (qw P jn s) (i + 1)), asg P jn s x (i + 1), w, ?_, rfl, rfl, hw⟩
      obtain ⟨f, hf⟩ : ∃ f, F = f + 1 := ⟨F - 1, by omega⟩
      have stop : ∀ (J' : Int32 → St → Option (Int32 × St)) (y : Int32), lq2 (bX7_share_89 F (nI s) (nI i) J') F (-4) y w = J' (-4) w := fun J' y => by
        generalize hq : lq2 (bX7_share_89 F (nI s) (nI i) J') F = G
        have hg : G = lq2 (bX7_share_89 F (nI s) (nI i) J') (f + 1) := by rw [← hq]; exact congrArg _ hf
        rw [hg, lq2_s]
        unfold bX7_share_89
        by_cases o : y < 0
        · rw [if_pos o]
        · rw [if_neg o, if_pos rfl]
      unfold bX7_share_51
      rw [h1, if_neg (nle hi (by omega)), at24, gd_i (by omega) (by omega), cl (by omega), hM'.g (by omega)]
      simp only [jn_e, vl_e]
      rw [if_neg (n0f q (by omega)), stop]
      unfold jX7_share_129
      simp only [jn_e, vl_e, nI_s, if_true]
      rw [cn, asg]
      have eb : bst P jn s i = -4 := by
        unfold bst
        rw [if_neg q]
      have eq : qw P jn s i = false := by
        unfold qw
        rw [decide_eq_false q, Bool.false_and]
      rw [eb, eq, if_neg (show ¬ false = true by decide), show nI (cn (qw P jn s) i) + 0 = nI (cn (qw P jn s) i + 0) from by rw [L0, nI_add]]
      by_cases o : x - 10 = nI i
      · rw [if_pos o, if_pos o]
      · rw [if_neg o, if_neg o]
theorem sub10 (x : Int32) : (Int32.toInt64 x - 10).toInt = x.toInt - 10 := by
  have h1 := Int32.le_toInt x
  have h2 := Int32.toInt_lt x
  rw [Int64.toInt_sub, tI64, show (10 : Int64).toInt = 10 from by decide]
  rw [Int.bmod_eq_of_le (by omega) (by omega)]
theorem st_share (F : Nat) (hLF : 200 ≤ F) {u v : St} (h : RR u v) (x0 x1 : Int32) : ∃ (r : Int32) (u' v' : St), pX6_share F x0 x1 u = some (r, u') ∧ pX7_share F x0 x1 v = some (r, v') ∧ RR u' v' := by
  obtain ⟨c, jn, P, ⟨c1, c2, c3, hX, c5, c6, c7⟩, i0, i1, hs, ht, hw, htn, hsh, hc⟩ := id h
  have y1 : u.1 0 = nI c := hX.1
  have y2 : u.1 1 = nI jn := hX.2.1
  unfold pX6_share pX7_share
  rcases two_side x0 with ⟨s, s1, rfl, k, k'⟩ | ⟨k, k'⟩
  · simp only [k, k', bd_s, i10, jn_e, y2, c6]
    by_cases q : x1 = 0
    · simp only [if_pos q]
      by_cases z : jn = 0
      · simp only [z, if_pos (show nI 0 = 0 from rfl)]
        exact ⟨_, _, _, rfl, rfl, h⟩
      · simp only [if_neg (n0f z (show jn < 2147483648 by omega))]
        obtain ⟨u', g1, g2⟩ := X_may F (by omega) u c1 c2 c3 hX s1
        obtain ⟨v', m1, m2⟩ := M_shareL F (by omega) v x1 (jX7_share_181 F x1) c1 c2 (by omega) c3 c7 (menv0 hc) c5 c6 s1
        rw [g1, m1]
        unfold jX7_share_181
        rw [if_pos q, bd_s]
        exact ⟨_, _, _, rfl, rfl, h.eq g2.x m2.m⟩
    · simp only [if_neg q]
      have hb : (nI c - 1).toInt = (c : Int) - 1 := subL (by omega)
      have hX0 : ∀ F, pX0_hasCase F 0 (Int32.toInt64 x1 - 10) u = some (b01 (0 ≤ x1.toInt - 10 ∧ x1.toInt - 10 ≤ (c : Int) - 1), u) := fun F => by
        unfold pX0_hasCase
        rw [show 4 * 0 + 0 = 0 from rfl, y1, X_isIn, bd_s, z01_b01, gd_true, sub10, hb]
        rfl
      have hM0 : ∀ F, pX7_in F (Int32.toInt64 x1) 10 (Int32.toInt64 (9 + v.1 0)) v = some (b01 (10 ≤ x1.toInt ∧ x1.toInt ≤ 9 + (c : Int)), v) := fun F => by
        rw [c5, L9, nI_add, M_in, tI64, tI64, tI (by omega), show (10 : Int64).toInt = 10 from by decide]
        congr 2
      rw [hX0, hM0, bd_s, bd_s]
      by_cases o : 10 ≤ x1.toInt ∧ x1.toInt ≤ 9 + (c : Int)
      · rw [b01_t o, b01_t (show 0 ≤ x1.toInt - 10 ∧ x1.toInt - 10 ≤ (c : Int) - 1 by omega), i10, i10, y2, c6]
        obtain ⟨n, n1, n2, rfl⟩ := nI_in2 (x := x1) (lo := 10) (hi := 9 + c) ⟨by omega, by omega⟩ (by omega)
        obtain ⟨a, rfl⟩ : ∃ a, n = 10 + a := ⟨n - 10, by omega⟩
        by_cases z : jn = 0
        · rw [z, if_pos (show nI 0 = 0 from rfl), if_pos (show nI 0 = 0 from rfl)]
          exact ⟨_, _, _, rfl, rfl, h⟩
        · rw [if_neg (n0f z (by omega)), if_neg (n0f z (by omega)), show nI (10 + a) - 10 = nI a from by rw [L10, subI (by omega), show 10 + a - 10 = a by omega]]
          obtain ⟨u', g1, g2⟩ := X_best F (by omega) (a := a) u c1 c2 (by omega) c3 hX (by omega) s1
          obtain ⟨v', m1, m2⟩ := M_shareL F (by omega) v (nI (10 + a)) (jX7_share_181 F (nI (10 + a))) c1 c2 (by omega) c3 c7 (menv0 hc) c5 c6 s1
          rw [g1, m1]
          unfold jX7_share_181
          rw [if_neg q, bd_s, asg_e P jn s c (by omega) (by omega)]
          exact ⟨_, _, _, rfl, rfl, h.eq g2.x m2.m⟩
      · rw [b01_f o, b01_f (show ¬ (0 ≤ x1.toInt - 10 ∧ x1.toInt - 10 ≤ (c : Int) - 1) by omega), i00, i00]
        exact ⟨_, _, _, rfl, rfl, h⟩
  · simp only [k, k', bd_s, i00]
    exact ⟨_, _, _, rfl, rfl, h⟩
theorem step_share {u v : St} (h : RR u v) (x0 x1 : Int32) : ∃ (r : Int32) (u' v' : St), pX6_share LF x0 x1 u = some (r, u') ∧ pX7_share LF x0 x1 v = some (r, v') ∧ RR u' v' := st_share LF (by decide) h x0 x1
