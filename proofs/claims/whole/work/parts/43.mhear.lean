/-! PURE: the reference's hearing -/
/-- the strongest draught of a minute with one more -/
def stm (P : Nat → Nat) (aw mm ms n m : Nat) : Nat := max (if mm = m then ms else 0) (stg P aw n m)
theorem M_blownL (F : Nat) {p aw mm ms mi g : Nat} {P : Nat → Nat} (v : St) (hp : p < 6) (hM : PgM p P v) (ha : aw < 16) (hv : v.1 15 = nI aw) (hm : mi < 100) (hg : g < 1000) (h46 : P 46 ≤ 4) (hb : ∀ i, i < P 46 → P (47 + i) < 1000 ∧ P (51 + i) < 1000) : ∀ (k i fuel : Nat), i + k = P 46 → k < fuel → ∀ (q : Prop) [Decidable q], lq2 (bX7_isBlown_26 F (nI (68 * p)) (nI mi) (nI g)) fuel (b01 (q ∨ g < stg P aw i mi)) (nI i) v = some (b01 (q ∨ g < stg P aw (P 46) mi), v)
  | k, i, 0, h1, h2, q, _ => by omega
  | 0, i, fuel + 1, h1, h2, q, _ => by
    have hi : i = P 46 := by omega
    subst hi
    rw [lq2_s]
    unfold bX7_isBlown_26
    rw [L46, nI_add, inb_nI (by omega) (by omega), gd_true, cl (by omega), hM 46 (by omega), if_pos ((leI (by omega) (by omega)).mpr (Nat.le_refl _)), z01_b01, gd_true]
  | k + 1, i, fuel + 1, h1, h2, q, dq => by
    obtain ⟨b1, b2⟩ := hb i (by omega)
    have e : lq2 (bX7_isBlown_26 F (nI (68 * p)) (nI mi) (nI g)) (fuel + 1) (b01 (q ∨ g < stg P aw i mi)) (nI i) v = lq2 (bX7_isBlown_26 F (nI (68 * p)) (nI mi) (nI g)) fuel (b01 (q ∨ g < stg P aw (i + 1) mi)) (nI (i + 1)) v := by
      rw [lq2_s]
      conv => lhs; unfold bX7_isBlown_26
      simp only [L46, L47, L51, L31, L0, L1, nI_add]
      rw [inb_nI (by omega) (by omega), gd_true, cl (by omega), hM 46 (by omega), if_neg (show ¬ nI (P 46) ≤ nI i from fun z => absurd ((leI (by omega) (by omega)).mp z) (by omega))]
      simp only [jn_e, hv, sh_bit aw ha i (by omega)]
      rw [inb_nI (n := 68 * p + 47 + i) (by omega) (by omega), inb_nI (n := 68 * p + 51 + i) (by omega) (by omega), cl (n := 68 * p + 47 + i) (by omega), cl (n := 68 * p + 51 + i) (by omega), show 68 * p + 47 + i = 68 * p + (47 + i) by omega, show 68 * p + 51 + i = 68 * p + (51 + i) by omega, hM (47 + i) (by omega), hM (51 + i) (by omega)]
      simp only [gd_true, b01_n0, eqI (a := P (47 + i)) (b := mi) (by omega) (by omega), leI (a := P (51 + i)) (b := g) (by omega) (by omega), show (nI 1 = nI 0) = False from eq_false (by decide), show (nI 0 = nI 0) = True from eq_true rfl, if_true, if_false]
      rw [stg]
      by_cases c0 : q ∨ g < stg P aw i mi
      · rw [if_pos c0, b01_t (show q ∨ _ from by
          rcases c0 with c | c
          · exact Or.inl c
          · refine Or.inr ?_
            split
            · exact Nat.lt_of_lt_of_le c (Nat.le_max_left _ _)
            · exact c)]
        by_cases c1 : aw.testBit i = false
        · rw [if_pos c1]
          by_cases c2 : P (47 + i) = mi
          · rw [if_pos c2]; rfl
          · rw [if_neg c2]; rfl
        · rw [if_neg c1]; rfl
      · rw [if_neg c0]
        by_cases c1 : aw.testBit i = false
        · rw [if_pos c1]
          by_cases c2 : P (47 + i) = mi
          · rw [if_pos c2, if_pos ⟨c1, c2⟩]
            by_cases c3 : P (51 + i) ≤ g
            · rw [if_pos c3, b01_f (by
                rintro (z | z)
                · exact c0 (Or.inl z)
                · have : ¬ g < stg P aw i mi := fun y => c0 (Or.inr y)
                  rw [Nat.lt_max] at z
                  omega)]
              rfl
            · rw [if_neg c3, b01_t (Or.inr (Nat.lt_max.mpr (Or.inr (by omega))))]
              rfl
          · rw [if_neg c2, if_neg (fun z => c2 z.2), b01_f c0]; rfl
        · rw [if_neg c1, if_neg (fun z => c1 z.1), b01_f c0]; rfl
    rw [e]
    exact M_blownL F v hp hM ha hv hm hg h46 hb k (i + 1) fuel (by omega) (by omega) q
theorem M_blown (F : Nat) (hF : 30 ≤ F) {p aw mm ms mi g : Nat} {P : Nat → Nat} (v : St) (hp : p < 6) (hM : PgM p P v) (ha : aw < 16) (hv : v.1 15 = nI aw) (h16 : ms = 0 ∨ v.1 16 = nI mm) (h17 : v.1 17 = nI ms) (hmm : mm < 1000) (hms : ms < 1000) (hm : mi < 100) (hg : g < 1000) (h46 : P 46 ≤ 4) (hb : ∀ i, i < P 46 → P (47 + i) < 1000 ∧ P (51 + i) < 1000) : pX7_isBlown F (nI (68 * p)) (nI mi) (nI g) v = some (b01 (g < stm P aw mm ms (P 46) mi), v) := by
  have key := M_blownL F v hp hM ha hv hm hg h46 hb (P 46) 0 F (by omega) (by omega)
  have fin : ∀ (q : Prop) [Decidable q], b01 (q ∨ g < stg P aw 0 mi) = b01 q := fun q _ => by
    unfold stg b01
    by_cases c : q <;> simp [c]
  unfold pX7_isBlown
  simp only [jn_e, L0, L1, h17]
  rw [leI (by omega) (by omega)]
  by_cases c1 : ms ≤ g
  · rw [if_pos c1]
    have := key False
    rw [fin False] at this
    rw [show nI 0 = b01 False from rfl]
    rw [show (b01 False : Int32) = nI 0 from rfl] at this ⊢
    rw [this]
    congr 2
    unfold b01 stm
    have : (False ∨ g < stg P aw (P 46) mi) ↔ g < max (if mm = mi then ms else 0) (stg P aw (P 46) mi) := by
      rw [Nat.lt_max]
      constructor
      · rintro (z | z)
        · exact z.elim
        · exact Or.inr z
      · rintro (z | z)
        · split at z <;> omega
        · exact Or.inr z
    simp only [this]
  · rw [if_neg c1]
    have h16' : v.1 16 = nI mm := h16.resolve_left (by omega)
    rw [h16', eqI (by omega) (by omega)]
    by_cases c2 : mm = mi
    · rw [if_pos c2]
      have := key True
      rw [fin True] at this
      rw [show (b01 True : Int32) = nI 1 from rfl] at this
      rw [this]
      congr 2
      rw [b01_t (Or.inl trivial), b01_t]
      unfold stm
      rw [if_pos c2, Nat.lt_max]
      exact Or.inl (by omega)
    · rw [if_neg c2]
      have := key False
      rw [fin False] at this
      rw [show (b01 False : Int32) = nI 0 from rfl] at this
      rw [this]
      congr 2
      unfold b01 stm
      have : (False ∨ g < stg P aw (P 46) mi) ↔ g < max (if mm = mi then ms else 0) (stg P aw (P 46) mi) := by
        rw [if_neg c2, Nat.lt_max]
        constructor
        · rintro (z | z)
          · exact z.elim
          · exact Or.inr z
        · rintro (z | z)
          · omega
          · exact Or.inr z
      simp only [this]
/-- what stands around a page while it is heard -/
def MEnv (aw mm ms : Nat) (v : St) : Prop := aw < 16 ∧ v.1 15 = nI aw ∧ (ms = 0 ∨ v.1 16 = nI mm) ∧ v.1 17 = nI ms ∧ mm < 1000 ∧ ms < 1000 ∧ v.2 1 = u0M.2 1
theorem M_out (F : Nat) (hF : 30 ≤ F) {p aw mm ms mi f : Nat} {P : Nat → Nat} (v : St) (hp : p < 6) (hM : PgM p P v) (hE : MEnv aw mm ms v) (hm : mi < 100) (hf : f < 8) (b1 : P (8 + f) < 1000) (b2 : P (16 + f) < 1000) (h46 : P 46 ≤ 4) (hb : ∀ i, i < P 46 → P (47 + i) < 1000 ∧ P (51 + i) < 1000) : pX7_isOut F (nI (68 * p)) (nI f) (nI mi) v = some (b01 (P (8 + f) = 0 ∨ P (16 + f) < stm P aw mm ms (P 46) mi), v) := by
  obtain ⟨ha, hv, h16, h17, hmm, hms, -⟩ := hE
  have key := M_blown F hF (g := P (16 + f)) v hp hM ha hv h16 h17 hmm hms hm b2 h46 hb
  unfold pX7_isOut
  simp only [L8, L16, L0, L1, nI_add]
  rw [inb_nI (by omega) (by omega), gd_true, inb_nI (by omega) (by omega), gd_true, cl (by omega), cl (by omega), show 68 * p + 8 + f = 68 * p + (8 + f) by omega, show 68 * p + 16 + f = 68 * p + (16 + f) by omega, hM (8 + f) (by omega), hM (16 + f) (by omega), eqI (by omega) (by omega), key]
  simp only [bd_s, b01_n0]
  by_cases c1 : P (8 + f) = 0
  · rw [if_pos c1, b01_t (Or.inl c1)]; rfl
  · rw [if_neg c1]
    by_cases c2 : P (16 + f) < stm P aw mm ms (P 46) mi
    · rw [if_pos c2, b01_t (Or.inr c2)]; rfl
    · rw [if_neg c2, b01_f (by rintro (z | z); exact c1 z; exact c2 z)]; rfl
theorem M_goes (F : Nat) {p cc jj : Nat} {P : Nat → Nat} (v : St) (hp : p < 6) (hM : PgM p P v) (hc : cc < 4) (hj : jj < 3) (b1 : P (8 + 2 * cc) < 1000) (b2 : P (8 + (2 * cc + 1)) < 1000) (b3 : P (16 + 2 * cc) < 1000) (b4 : P (16 + (2 * cc + 1)) < 1000) (b5 : P (40 + jj) ≤ 3) : pX7_goesTo F (nI (68 * p)) (nI cc) (nI jj) v = some (nI (hGo (P (8 + 2 * cc)) (P (8 + (2 * cc + 1))) (P (16 + 2 * cc)) (P (16 + (2 * cc + 1))) (P (40 + jj))), v) := by
  unfold pX7_goesTo
  simp only [L8, L16, L0, L1, L2, L40, nI_add, pk_mul, vl_e, jn_e]
  rw [inb_nI (n := 68 * p + 8 + 2 * cc + 1) (by omega) (by omega), inb_nI (n := 68 * p + 8 + 2 * cc) (by omega) (by omega), inb_nI (n := 68 * p + 40 + jj) (by omega) (by omega), inb_nI (n := 68 * p + 16 + 2 * cc + 1) (by omega) (by omega), inb_nI (n := 68 * p + 16 + 2 * cc) (by omega) (by omega)]
  simp only [gd_true]
  rw [cl (n := 68 * p + 8 + 2 * cc + 1) (by omega), cl (n := 68 * p + 8 + 2 * cc) (by omega), cl (n := 68 * p + 40 + jj) (by omega), cl (n := 68 * p + 16 + 2 * cc + 1) (by omega), cl (n := 68 * p + 16 + 2 * cc) (by omega)]
  rw [show 68 * p + 8 + 2 * cc + 1 = 68 * p + (8 + (2 * cc + 1)) by omega, show 68 * p + 8 + 2 * cc = 68 * p + (8 + 2 * cc) by omega, show 68 * p + 40 + jj = 68 * p + (40 + jj) by omega, show 68 * p + 16 + 2 * cc + 1 = 68 * p + (16 + (2 * cc + 1)) by omega, show 68 * p + 16 + 2 * cc = 68 * p + (16 + 2 * cc) by omega]
  rw [hM _ (by omega), hM _ (by omega), hM _ (by omega), hM _ (by omega), hM _ (by omega)]
  generalize P (8 + 2 * cc) = l0 at *
  generalize P (8 + (2 * cc + 1)) = l1 at *
  generalize P (16 + 2 * cc) = g0 at *
  generalize P (16 + (2 * cc + 1)) = g1 at *
  generalize P (40 + jj) = hb at *
  simp (disch := omega) only [leI, eqI, subI]
  have c1 : l0 < l1 ↔ ¬ l1 ≤ l0 := by omega
  have c2 : g1 < g0 ↔ ¬ g0 ≤ g1 := by omega
  simp only [hGo, c1, c2]
  have hh : hb = 0 ∨ hb = 1 ∨ hb = 2 ∨ hb = 3 := by omega
  rcases hh with rfl | rfl | rfl | rfl <;> by_cases d0 : l1 ≤ l0 <;> by_cases d4 : g0 ≤ g1 <;> simp [d0, d4]
theorem M_bn {v : St} (h : v.2 1 = u0M.2 1) {k : Nat} (hk : k ≤ 3) : v.2 1 k = nI (bn k) := by
  rw [h]
  match k, hk with
  | 0, _ => rfl
  | 1, _ => rfl
  | 2, _ => rfl
  | 3, _ => rfl
  | k + 4, h => omega
theorem burn_eq2 {l b : Nat} (hl : l < 1000) (hb : b < 1000) {α : Type} (f : Int32 → α) : (if nI 0 ≤ nI l - nI b then f (nI l - nI b) else f (nI 0)) = f (nI (l - b)) := by
  by_cases h : b ≤ l
  · rw [subI h, if_pos ((leI (by omega) (by omega)).mpr (by omega))]
  · have e : (nI l - nI b).toInt = (l : Int) - b := by
      rw [Int32.toInt_sub, tI (by omega), tI (by omega)]
      exact fb_bmod0 (by omega) (by omega)
    rw [if_neg, show l - b = 0 by omega]
    rw [Int32.le_iff_toInt_le, e, tI (by omega)]
    omega
theorem M_burn (F : Nat) {p f k l : Nat} (v : St) (hp : p < 6) (hf : f < 8) (hk : k ≤ 3) (hl : l < 1000) (h0 : v.2 0 (68 * p + f) = nI k) (h8 : v.2 0 (68 * p + (8 + f)) = nI l) (h1 : v.2 1 = u0M.2 1) : pX7_burnsOn F (nI (68 * p)) (nI f) v = some ((), sta v 0 (nI (68 * p + (8 + f))) (nI (l - bn k))) := by
  have q := bn_bd k
  unfold pX7_burnsOn
  simp only [L8, L0, nI_add, vl_e, jn_e]
  rw [inb_nI (n := 68 * p + 8 + f) (by omega) (by omega), inb_nI (n := 68 * p + f) (by omega) (by omega), cl (n := 68 * p + f) (by omega), cl (n := 68 * p + 8 + f) (by omega), h0, inb_nI (n := k) (by omega) (by omega), cl (n := k) (by omega), M_bn h1 hk, show 68 * p + 8 + f = 68 * p + (8 + f) by omega, h8]
  simp only [gd_true]
  exact burn_eq2 hl (by omega) (fun x => some ((), sta v 0 (nI (68 * p + (8 + f))) x))
/-- a page with other lengths of a case -/
def lw (P : Nat → Nat) (cc l0 l1 : Nat) : Nat → Nat := fun j => if j = 8 + 2 * cc then l0 else if j = 8 + (2 * cc + 1) then l1 else P j
theorem lw_0 (P : Nat → Nat) (cc l0 l1 : Nat) : lw P cc l0 l1 (8 + 2 * cc) = l0 := if_pos rfl
theorem lw_1 (P : Nat → Nat) (cc l0 l1 : Nat) : lw P cc l0 l1 (8 + (2 * cc + 1)) = l1 := by
  unfold lw
  rw [if_neg (by omega), if_pos rfl]
theorem lw_o (P : Nat → Nat) {cc l0 l1 j : Nat} (h : j ≠ 8 + 2 * cc) (h2 : j ≠ 8 + (2 * cc + 1)) : lw P cc l0 l1 j = P j := by
  unfold lw
  rw [if_neg h, if_neg h2]
theorem lw_self (P : Nat → Nat) (cc : Nat) : lw P cc (P (8 + 2 * cc)) (P (8 + (2 * cc + 1))) = P := by
  funext j
  unfold lw
  split
  · next h => rw [h]
  · split
    · next h => rw [h]
    · rfl
theorem stg_lw (P : Nat → Nat) (aw : Nat) {cc l0 l1 : Nat} (hc : cc < 4) : ∀ n m, stg (lw P cc l0 l1) aw n m = stg P aw n m
  | 0, m => rfl
  | n + 1, m => by
    unfold stg
    rw [stg_lw P aw hc n m, lw_o P (by omega) (by omega), lw_o P (by omega) (by omega)]
theorem M_end (F : Nat) {x : Nat} (q0 q1 : Prop) [Decidable q0] [Decidable q1] (v : St) (h : q0 ∨ q1) : jX7_hearsOn_101 F (nI x) (b01 q0) (b01 q1) v = some (nI (if q0 then (if q1 then 3 else 2) else 1), stf v 18 (nI x)) := by
  unfold jX7_hearsOn_101
  simp only [vl_e, jn_e, L0, L1, L2, L3, b01_n0]
  by_cases c0 : q0 <;> by_cases c1 : q1 <;> simp [c0, c1]
  exact absurd h (by simp [c0, c1])
theorem M_loop (F : Nat) (hF : 30 ≤ F) {p aw mm ms cc jj : Nat} {P : Nat → Nat} (hp : p < 6) (hc : cc < 4) (hj : jj < 3) (k0 : P (2 * cc) ≤ 3) (k1 : P (2 * cc + 1) ≤ 3) (b3 : P (16 + 2 * cc) < 1000) (b4 : P (16 + (2 * cc + 1)) < 1000) (b5 : P (40 + jj) ≤ 3) (b7 : P (43 + jj) ≤ 9) (h46 : P 46 ≤ 4) (hb : ∀ i, i < P 46 → P (47 + i) < 1000 ∧ P (51 + i) < 1000) : ∀ (n m l0 l1 fuel : Nat) (v : St), n ≤ fuel → m + n = 10 → m ≤ P (43 + jj) → l0 < 1000 → l1 < 1000 → MEnv aw mm ms v → PgM p (lw P cc l0 l1) v →
    ∃ v', lq1 (bX7_hearsOn_3 F (nI (68 * p)) (nI cc) (nI jj) (jX7_hearsOn_101 F)) fuel (nI m) v = some (nI (hRun (bn (P (2 * cc))) (bn (P (2 * cc + 1))) (P (16 + 2 * cc)) (P (16 + (2 * cc + 1))) (P (40 + jj)) (P (43 + jj)) (stm P aw mm ms (P 46)) n m l0 l1).1, v') ∧
      PgM p (lw P cc (hRun (bn (P (2 * cc))) (bn (P (2 * cc + 1))) (P (16 + 2 * cc)) (P (16 + (2 * cc + 1))) (P (40 + jj)) (P (43 + jj)) (stm P aw mm ms (P 46)) n m l0 l1).2.2.1 (hRun (bn (P (2 * cc))) (bn (P (2 * cc + 1))) (P (16 + 2 * cc)) (P (16 + (2 * cc + 1))) (P (40 + jj)) (P (43 + jj)) (stm P aw mm ms (P 46)) n m l0 l1).2.2.2) v' ∧
      v'.1 18 = nI (hRun (bn (P (2 * cc))) (bn (P (2 * cc + 1))) (P (16 + 2 * cc)) (P (16 + (2 * cc + 1))) (P (40 + jj)) (P (43 + jj)) (stm P aw mm ms (P 46)) n m l0 l1).2.1 ∧ (∀ k, k ≠ 18 → v'.1 k = v.1 k) ∧ (∀ k, k ≠ 0 → v'.2 k = v.2 k) ∧ (∀ i, (i < 68 * p ∨ 68 * p + 68 ≤ i) → v'.2 0 i = v.2 0 i)
  | 0, m, l0, l1, fuel, v, hf, hm, hs, b1, b2, hE, hM => by omega
  | n + 1, m, l0, l1, 0, v, hf, hm, hs, b1, b2, hE, hM => by omega
  | n + 1, m, l0, l1, fuel + 1, v, hf, hm, hs, b1, b2, hE, hM => by
    have hl0 := lw_0 P cc l0 l1
    have hl1 := lw_1 P cc l0 l1
    have lo : ∀ j, (j < 8 ∨ 16 ≤ j) → lw P cc l0 l1 j = P j := fun j hj => lw_o P (by omega) (by omega)
    have hS : stm (lw P cc l0 l1) aw mm ms (lw P cc l0 l1 46) m = stm P aw mm ms (P 46) m := by
      unfold stm
      rw [lo 46 (by omega), stg_lw P aw hc]
    have o0 := M_out F hF (f := 2 * cc) (mi := m) v hp hM hE (by omega) (by omega) (by rw [hl0]; omega) (by rw [lo _ (by omega)]; omega) (by rw [lo 46 (by omega)]; exact h46) (fun i hi => by rw [lo 46 (by omega)] at hi; rw [lo _ (by omega), lo _ (by omega)]; exact hb i hi)
    have o1 := M_out F hF (f := 2 * cc + 1) (mi := m) v hp hM hE (by omega) (by omega) (by rw [hl1]; omega) (by rw [lo _ (by omega)]; omega) (by rw [lo 46 (by omega)]; exact h46) (fun i hi => by rw [lo 46 (by omega)] at hi; rw [lo _ (by omega), lo _ (by omega)]; exact hb i hi)
    rw [hl0, hS, lo _ (by omega)] at o0
    rw [hl1, hS, lo _ (by omega)] at o1
    have hsl : v.2 0 (68 * p + (43 + jj)) = nI (P (43 + jj)) := by rw [hM _ (by omega), lo _ (by omega)]
    have hg := M_goes F (jj := jj) v hp hM hc hj (by rw [hl0]; omega) (by rw [hl1]; omega) (by rw [lo _ (by omega)]; omega) (by rw [lo _ (by omega)]; omega) (by rw [lo _ (by omega)]; exact b5)
    rw [hl0, hl1, lo _ (by omega), lo _ (by omega), lo _ (by omega)] at hg
    generalize hSm : stm P aw mm ms (P 46) = S at *
    rw [lq1_s]
    unfold bX7_hearsOn_3
    simp only [L9, L2, L1, L0, L43, pk_mul, nI_add]
    rw [if_neg (show ¬ nI 9 < nI m from fun z => absurd ((ltI (by omega) (by omega)).mp z) (by omega)), o0, bd_s, o1, bd_s, jn_e]
    simp only [b01_n0]
    rw [inb_nI (n := 68 * p + 43 + jj) (by omega) (by omega), gd_true, cl (n := 68 * p + 43 + jj) (by omega), show 68 * p + 43 + jj = 68 * p + (43 + jj) by omega, hsl, eqI (by omega) (by omega)]
    by_cases c0 : l0 = 0 ∨ P (16 + 2 * cc) < S m
    · rw [if_pos c0, if_pos c0, M_end F _ _ v (Or.inl c0), hRun_end _ _ _ _ _ _ S n m l0 l1 (by omega)]
      refine ⟨_, ?_, hM, rfl, fun k hk => by rw [stf_1, if_neg hk], fun k hk => rfl, fun i hi => rfl⟩
      unfold hEnd
      rw [if_pos c0]
      by_cases c1 : l1 = 0 ∨ P (16 + (2 * cc + 1)) < S m
      · rw [if_pos c1, if_pos c0]
      · rw [if_neg c1, if_pos c0]
    · rw [if_neg c0]
      by_cases c1 : l1 = 0 ∨ P (16 + (2 * cc + 1)) < S m
      · rw [if_pos c1, if_neg c0, if_pos c1, M_end F _ _ v (Or.inr c1), hRun_end _ _ _ _ _ _ S n m l0 l1 (by omega)]
        refine ⟨_, ?_, hM, rfl, fun k hk => by rw [stf_1, if_neg hk], fun k hk => rfl, fun i hi => rfl⟩
        unfold hEnd
        rw [if_neg c0, if_pos c1, if_neg c0]
      · rw [if_neg c1]
        by_cases c2 : m = P (43 + jj)
        · rw [if_pos c2, hg, bd_s, jn_e, hRun_end _ _ _ _ _ _ S n m l0 l1 (by omega)]
          have hd : hEnd l0 l1 (P (16 + 2 * cc)) (P (16 + (2 * cc + 1))) (P (40 + jj)) (S m) = if hGo l0 l1 (P (16 + 2 * cc)) (P (16 + (2 * cc + 1))) (P (40 + jj)) = 0 then 2 else 1 := by
            unfold hEnd
            rw [if_neg c0, if_neg c1]
          have hgb : hGo l0 l1 (P (16 + 2 * cc)) (P (16 + (2 * cc + 1))) (P (40 + jj)) < 2 := by
            unfold hGo
            split <;> (try split) <;> (try split) <;> (try split) <;> omega
          by_cases c3 : hGo l0 l1 (P (16 + 2 * cc)) (P (16 + (2 * cc + 1))) (P (40 + jj)) = 0
          · have e := M_end F (x := m) True False v (Or.inl trivial)
            rw [show (b01 True : Int32) = nI 1 from rfl, show (b01 False : Int32) = nI 0 from rfl] at e
            rw [c3, if_pos rfl, jn_e, if_neg (show ¬ nI 1 = nI 0 by decide), if_neg (show ¬ nI 1 = nI 0 by decide), e]
            refine ⟨_, ?_, hM, rfl, fun k hk => by rw [stf_1, if_neg hk], fun k hk => rfl, fun i hi => rfl⟩
            rw [hd, if_pos c3]
            rfl
          · have c4 : hGo l0 l1 (P (16 + 2 * cc)) (P (16 + (2 * cc + 1))) (P (40 + jj)) = 1 := by omega
            have e := M_end F (x := m) False True v (Or.inr trivial)
            rw [show (b01 True : Int32) = nI 1 from rfl, show (b01 False : Int32) = nI 0 from rfl] at e
            rw [c4, if_neg (show ¬ nI 1 = nI 0 by decide), jn_e, if_pos rfl, if_pos rfl, if_neg (show ¬ nI 1 = nI 0 by decide), e]
            refine ⟨_, ?_, hM, rfl, fun k hk => by rw [stf_1, if_neg hk], fun k hk => rfl, fun i hi => rfl⟩
            rw [hd, if_neg c3]
            rfl
        · rw [if_neg c2, if_neg c0, if_neg c1, hRun_on _ _ _ _ _ _ S n m l0 l1 (by omega)]
          have h1 : v.2 1 = u0M.2 1 := hE.2.2.2.2.2.2
          have q0 := bn_bd (P (2 * cc))
          have q1 := bn_bd (P (2 * cc + 1))
          rw [M_burn F (f := 2 * cc) (k := P (2 * cc)) (l := l0) v hp (by omega) k0 b1 (by rw [hM _ (by omega), lo _ (by omega)]) (by rw [hM _ (by omega), hl0]) h1, bd_s]
          rw [M_burn F (f := 2 * cc + 1) (k := P (2 * cc + 1)) (l := l1) _ hp (by omega) k1 b2 (by
            rw [sta_2, if_pos rfl, cl (by omega), upd_n (by omega), hM _ (by omega), lo _ (by omega)]) (by
            rw [sta_2, if_pos rfl, cl (by omega), upd_n (by omega), hM _ (by omega), hl1]) h1, bd_s]
          generalize hw : sta (sta v 0 (nI (68 * p + (8 + 2 * cc))) (nI (l0 - bn (P (2 * cc))))) 0 (nI (68 * p + (8 + (2 * cc + 1)))) (nI (l1 - bn (P (2 * cc + 1)))) = w
          have w1 : w.1 = v.1 := by rw [← hw]; rfl
          have w2 : ∀ k, k ≠ 0 → w.2 k = v.2 k := fun k hk => by rw [← hw, sta_2, if_neg hk, sta_2, if_neg hk]
          have w0 : ∀ i, w.2 0 i = if i = 68 * p + (8 + (2 * cc + 1)) then nI (l1 - bn (P (2 * cc + 1))) else if i = 68 * p + (8 + 2 * cc) then nI (l0 - bn (P (2 * cc))) else v.2 0 i := fun i => by
            rw [← hw, sta_2, if_pos rfl, cl (by omega), sta_2, if_pos rfl, cl (by omega)]
            rfl
          clear hw
          subst hSm
          obtain ⟨v', g1, g2, g3, g4, g5, g6⟩ := M_loop F hF hp hc hj k0 k1 b3 b4 b5 b7 h46 hb n (m + 1) (l0 - bn (P (2 * cc))) (l1 - bn (P (2 * cc + 1))) fuel w (by omega) (by omega) (by omega) (by omega) (by omega) (by
            obtain ⟨e1, e2, e3, e4, e5, e6, e7⟩ := hE
            exact ⟨e1, by rw [w1]; exact e2, by rw [w1]; exact e3, by rw [w1]; exact e4, e5, e6, by rw [w2 1 (by omega)]; exact e7⟩) (fun k hk => by
            rw [w0]
            unfold lw
            by_cases d1 : k = 8 + (2 * cc + 1)
            · rw [if_pos (by omega), if_neg (by omega), if_pos d1]
            · rw [if_neg (by omega)]
              by_cases d2 : k = 8 + 2 * cc
              · rw [if_pos (by omega), if_pos d2]
              · rw [if_neg (by omega), if_neg d2, if_neg d1, hM k hk, lw_o P d2 d1])
          refine ⟨v', g1, g2, g3, fun k hk => by rw [g4 k hk, w1], fun k hk => by rw [g5 k hk, w2 k hk], fun i hi => by rw [g6 i hi, w0, if_neg (by omega), if_neg (by omega)]⟩
theorem M_copyL (F : Nat) {p q : Nat} (hp : p < 6) (hq : q < 6) (hpq : p ≠ q) : ∀ (n i fuel : Nat) (v : St), i + n = 68 → n < fuel → ∃ v', lq1 (bX7_copies_2 F (nI (68 * p)) (nI (68 * q))) fuel (nI i) v = some ((), v') ∧ v'.1 = v.1 ∧ (∀ k, k ≠ 0 → v'.2 k = v.2 k) ∧ (∀ k, i ≤ k → k < 68 → v'.2 0 (68 * q + k) = v.2 0 (68 * p + k)) ∧ (∀ k, (k < 68 * q + i ∨ 68 * q + 68 ≤ k) → v'.2 0 k = v.2 0 k)
  | n, i, 0, v, h1, h2 => by omega
  | 0, i, fuel + 1, v, h1, h2 => by
    refine ⟨v, ?_, rfl, fun k hk => rfl, fun k h3 h4 => by omega, fun k hk => rfl⟩
    rw [lq1_s]
    unfold bX7_copies_2
    rw [L68, if_pos ((leI (by omega) (by omega)).mpr (by omega))]
  | n + 1, i, fuel + 1, v, h1, h2 => by
    have e : lq1 (bX7_copies_2 F (nI (68 * p)) (nI (68 * q))) (fuel + 1) (nI i) v = lq1 (bX7_copies_2 F (nI (68 * p)) (nI (68 * q))) fuel (nI (i + 1)) (sta v 0 (nI (68 * q + i)) (v.2 0 (68 * p + i))) := by
      rw [lq1_s]
      conv => lhs; unfold bX7_copies_2
      rw [L68, if_neg (show ¬ nI 68 ≤ nI i from fun z => absurd ((leI (by omega) (by omega)).mp z) (by omega))]
      simp only [nI_add, vl_e, L1]
      rw [inb_nI (by omega) (by omega), inb_nI (by omega) (by omega), cl (by omega)]
      rfl
    rw [e]
    obtain ⟨v', g1, g2, g3, g4, g5⟩ := M_copyL F hp hq hpq n (i + 1) fuel (sta v 0 (nI (68 * q + i)) (v.2 0 (68 * p + i))) (by omega) (by omega)
    refine ⟨v', g1, g2.trans rfl, fun k hk => (g3 k hk).trans (by rw [sta_2, if_neg hk]), fun k h3 h4 => ?_, fun k hk => ?_⟩
    · by_cases hk : k = i
      · subst hk
        rw [g5 _ (by omega), sta_2, if_pos rfl, cl (by omega), upd_s]
      · rw [g4 k (by omega) h4, sta_2, if_pos rfl, cl (by omega), upd_n (by omega)]
    · rw [g5 k (by omega), sta_2, if_pos rfl, cl (by omega), upd_n (by omega)]
theorem M_copies (F : Nat) (hF : 80 ≤ F) {p q : Nat} (hp : p < 6) (hq : q < 6) (hpq : p ≠ q) (v : St) : ∃ v', pX7_copies F (nI (68 * p)) (nI (68 * q)) v = some ((), v') ∧ v'.1 = v.1 ∧ (∀ k, k ≠ 0 → v'.2 k = v.2 k) ∧ (∀ k, k < 68 → v'.2 0 (68 * q + k) = v.2 0 (68 * p + k)) ∧ (∀ k, (k < 68 * q ∨ 68 * q + 68 ≤ k) → v'.2 0 k = v.2 0 k) := by
  obtain ⟨v', g1, g2, g3, g4, g5⟩ := M_copyL F hp hq hpq 68 0 F v (by omega) (by omega)
  exact ⟨v', by unfold pX7_copies; exact g1, g2, g3, fun k hk => g4 k (by omega) hk, fun k hk => g5 k (by omega)⟩
theorem M_hears (F : Nat) (hF : 80 ≤ F) {p c jn aw mm ms cc jj : Nat} {P : Nat → Nat} (v : St) (hp : p < 6) (hc4 : c ≤ 4) (hj3 : jn ≤ 3) (hPg : PgOK c jn P) (hM : PgM p P v) (hE : MEnv aw mm ms v) (hc : cc < c) (hj : jj < jn) :
    ∃ v', pX7_hearsOn F (nI (68 * p)) (nI cc) (nI jj) v = some (nI (hP P (stm P aw mm ms (P 46)) cc jj).1, v') ∧ PgM p (lw P cc (hP P (stm P aw mm ms (P 46)) cc jj).2.2.1 (hP P (stm P aw mm ms (P 46)) cc jj).2.2.2) v' ∧ v'.1 18 = nI (hP P (stm P aw mm ms (P 46)) cc jj).2.1 ∧ (∀ k, k ≠ 18 → v'.1 k = v.1 k) ∧ (∀ k, k ≠ 0 → v'.2 k = v.2 k) ∧ (∀ i, (i < 68 * p ∨ 68 * p + 68 ≤ i) → v'.2 0 i = v.2 0 i) := by
  have q0 := hPg.2.2.1 (2 * cc) (by omega)
  have q1 := hPg.2.2.1 (2 * cc + 1) (by omega)
  have q2 := hPg.2.2.2.2.1 jj hj
  have q3 := hPg.2.2.2.2.2.1
  unfold pX7_hearsOn
  rw [jn_e, L0]
  exact M_loop F (by omega) hp (by omega) (by omega) q0.1 q1.1 (by omega) (by omega) q2.1 q2.2.2 hPg.1 (fun i hi => by have := q3 i hi; omega) 10 0 _ _ F v (by omega) (by omega) (by omega) (by omega) (by omega) hE (by rw [lw_self]; exact hM)
theorem M_tries (F : Nat) (hF : 80 ≤ F) {p c jn aw mm ms cc jj : Nat} {P : Nat → Nat} (v : St) (hp : p < 6) (hp4 : p ≠ 4) (hc4 : c ≤ 4) (hj3 : jn ≤ 3) (hPg : PgOK c jn P) (hM : PgM p P v) (hE : MEnv aw mm ms v) (hc : cc < c) (hj : jj < jn) :
    ∃ v', pX7_tries F (nI (68 * p)) (nI cc) (nI jj) v = some (nI (hP P (stm P aw mm ms (P 46)) cc jj).1, v') ∧ PgM 4 (lw P cc (hP P (stm P aw mm ms (P 46)) cc jj).2.2.1 (hP P (stm P aw mm ms (P 46)) cc jj).2.2.2) v' ∧ v'.1 18 = nI (hP P (stm P aw mm ms (P 46)) cc jj).2.1 ∧ (∀ k, k ≠ 18 → v'.1 k = v.1 k) ∧ (∀ k, k ≠ 0 → v'.2 k = v.2 k) ∧ (∀ i, (i < 272 ∨ 340 ≤ i) → v'.2 0 i = v.2 0 i) := by
  obtain ⟨w, g1, g2, g3, g4, g5⟩ := M_copies F hF hp (show 4 < 6 by omega) hp4 v
  obtain ⟨e1, e2, e3, e4, e5, e6, e7⟩ := hE
  obtain ⟨v', k1, k2, k3, k4, k5, k6⟩ := M_hears F hF (p := 4) w (by omega) hc4 hj3 hPg (fun k hk => by rw [g4 k hk]; exact hM k hk) (aw := aw) (mm := mm) (ms := ms) ⟨e1, by rw [g2]; exact e2, by rw [g2]; exact e3, by rw [g2]; exact e4, e5, e6, by rw [g3 1 (by omega)]; exact e7⟩ hc hj
  refine ⟨v', ?_, k2, k3, fun k hk => by rw [k4 k hk, g2], fun k hk => by rw [k5 k hk, g3 k hk], fun i hi => by rw [k6 i (by omega), g5 i (by omega)]⟩
  unfold pX7_tries
  rw [L272, show nI 272 = nI (68 * 4) from rfl, g1, bd_s, k1]
  rfl
theorem stm_0 (P : Nat → Nat) (mm n : Nat) : stm P 0 mm 0 n = stg P 0 n := by
  funext m
  unfold stm
  split <;> simp
