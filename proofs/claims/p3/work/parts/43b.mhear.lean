/-- what stands around a page while it is heard -/
def MEnv (aw mm ms : Nat) (v : St) : Prop := aw < 16 ∧ v.1 15 = nI aw ∧ (ms = 0 ∨ v.1 16 = nI mm) ∧ v.1 17 = nI ms ∧ mm < 1000 ∧ ms < 1000 ∧ v.2 1 = u0M.2 1
theorem M_out (F : Nat) (hF : 30 ≤ F) {p aw mm ms mi f : Nat} {P : Nat → Nat} (v : St) (hp : p < 6) (hM : PgM p P v) (hE : MEnv aw mm ms v) (hm : mi < 100) (hf : f < 8) (b1 : P (8 + f) < 1000) (b2 : P (16 + f) < 1000) (h46 : P 46 ≤ 4) (hb : ∀ i, i < P 46 → P (47 + i) < 1000 ∧ P (51 + i) < 1000) : pX7_isOut F (nI (68 * p)) (nI f) (nI mi) v = some (b01 (P (8 + f) = 0 ∨ P (16 + f) < stm P aw mm ms (P 46) mi), v) := by
  obtain ⟨ha, hv, h16, h17, hmm, hms, -⟩ := hE
  have key := M_blown F hF (g := P (16 + f)) v hp hM ha hv h16 h17 hmm hms hm b2 h46 hb
  unfold pX7_isOut
  simp only [L8, L16, L0, L1, nI_add]
  rw [inb_nI (by omega) (by omega), gd_true, inb_nI (by omega) (by omega), gd_true, cl (by omega), cl (by omega), show 68 * p + 8 + f = 68 * p + (8 + f) by omega, show 68 * p + 16 + f = 68 * p + (16 + f) by omega, hM (8 + f) (by omega), hM (16 + f) (by omega), ifeq (by omega) (by omega), key]
  simp only [bd_s, b01_n0]
  by_cases c1 : P (8 + f) = 0
  · rw [if_pos c1, b01_t (Or.inl c1)]; rfl
  · rw [if_neg c1]
    by_cases c2 : P (16 + f) < stm P aw mm ms (P 46) mi
    · rw [if_pos c2, b01_t (Or.inr c2)]; rfl
    · rw [if_neg c2, b01_f (by rintro (z | z); exact c1 z; exact c2 z)]; rfl
theorem M_goes (F : Nat) {p cc jj : Nat} {P : Nat → Nat} (v : St) (hp : p < 6) (hM : PgM p P v) (hc : cc < 4) (hj : jj < 3) (b1 : P (8 + 2 * cc) < 1000) (b2 : P (8 + (2 * cc + 1)) < 1000) (b3 : P (16 + 2 * cc) < 1000) (b4 : P (16 + (2 * cc + 1)) < 1000) (b5 : P (40 + jj) ≤ 3) : pX7_goesTo F (nI (68 * p)) (nI cc) (nI jj) v = some (nI (hGo (P (8 + 2 * cc)) (P (8 + (2 * cc + 1))) (P (16 + 2 * cc)) (P (16 + (2 * cc + 1))) (P (40 + jj))), v) := by
  unfold pX7_goesTo
  simp only [L8, L16, L0, L1, L2, L40, nI_add, pk_mul, vl_e, jn_e]
  rw [inb_nI (n := 68 * p + 8 + 2 * cc + 1) (by omega) (by omega), inb_nI (n := 68 * p + 8 + 2 * cc) (by omega) (by omega), inb_nI (n := 68 * p + 40 + jj) (by omega) (by omega), inb_nI (n := 68 * p + 16 + 2 * cc + 1) (by omega) (by omega), inb_nI (n := 68 * p + 16 + 2 * cc) (by omega) (by omega)]
  simp only [gd_true]
  rw [cl (n := 68 * p + 8 + 2 * cc + 1) (by omega), cl (n := 68 * p + 8 + 2 * cc) (by omega), cl (n := 68 * p + 40 + jj) (by omega), cl (n := 68 * p + 16 + 2 * cc + 1) (by omega), cl (n := 68 * p + 16 + 2 * cc) (by omega)]
  rw [show 68 * p + 8 + 2 * cc + 1 = 68 * p + (8 + (2 * cc + 1)) by omega, show 68 * p + 8 + 2 * cc = 68 * p + (8 + 2 * cc) by omega, show 68 * p + 40 + jj = 68 * p + (40 + jj) by omega, show 68 * p + 16 + 2 * cc + 1 = 68 * p + (16 + (2 * cc + 1)) by omega, show 68 * p + 16 + 2 * cc = 68 * p + (16 + 2 * cc) by omega]
  rw [hM _ (by omega), hM _ (by omega), hM _ (by omega), hM _ (by omega), hM _ (by omega)]
  generalize P (8 + 2 * cc) = l0 at *
  generalize P (8 + (2 * cc + 1)) = l1 at *
  generalize P (16 + 2 * cc) = g0 at *
  generalize P (16 + (2 * cc + 1)) = g1 at *
  generalize P (40 + jj) = hb at *
  simp (disch := omega) only [leI, eqI, subI]
  have c1 : l0 < l1 ↔ ¬ l1 ≤ l0 := by omega
  have c2 : g1 < g0 ↔ ¬ g0 ≤ g1 := by omega
  simp only [hGo, c1, c2]
  have hh : hb = 0 ∨ hb = 1 ∨ hb = 2 ∨ hb = 3 := by omega
  rcases hh with rfl | rfl | rfl | rfl <;> by_cases d0 : l1 ≤ l0 <;> by_cases d4 : g0 ≤ g1 <;> simp [d0, d4]
theorem M_bn {v : St} (h : v.2 1 = u0M.2 1) {k : Nat} (hk : k ≤ 3) : v.2 1 k = nI (bn k) := by
  rw [h]
  match k, hk with
  | 0, _ => rfl
  | 1, _ => rfl
  | 2, _ => rfl
  | 3, _ => rfl
  | k + 4, h => omega
theorem burn_eq2 {l b : Nat} (hl : l < 1000) (hb : b < 1000) {α : Type} (f : Int32 → α) : (if nI 0 ≤ nI l - nI b then f (nI l - nI b) else f (nI 0)) = f (nI (l - b)) := by
  by_cases h : b ≤ l
  · rw [subI h, if_pos ((leI (by omega) (by omega)).mpr (by omega))]
  · have e : (nI l - nI b).toInt = (l : Int) - b := by
      rw [Int32.toInt_sub, tI (by omega), tI (by omega)]
      exact fb_bmod0 (by omega) (by omega)
    rw [if_neg, show l - b = 0 by omega]
    rw [Int32.le_iff_toInt_le, e, tI (by omega)]
    omega
theorem M_burn (F : Nat) {p f k l : Nat} (v : St) (hp : p < 6) (hf : f < 8) (hk : k ≤ 3) (hl : l < 1000) (h0 : v.2 0 (68 * p + f) = nI k) (h8 : v.2 0 (68 * p + (8 + f)) = nI l) (h1 : v.2 1 = u0M.2 1) : pX7_burnsOn F (nI (68 * p)) (nI f) v = some ((), sta v 0 (nI (68 * p + (8 + f))) (nI (l - bn k))) := by
  have q := bn_bd k
  unfold pX7_burnsOn
  simp only [L8, L0, nI_add, vl_e, jn_e]
  rw [inb_nI (n := 68 * p + 8 + f) (by omega) (by omega), inb_nI (n := 68 * p + f) (by omega) (by omega), cl (n := 68 * p + f) (by omega), cl (n := 68 * p + 8 + f) (by omega), h0, inb_nI (n := k) (by omega) (by omega), cl (n := k) (by omega), M_bn h1 hk, show 68 * p + 8 + f = 68 * p + (8 + f) by omega, h8]
  simp only [gd_true]
  exact burn_eq2 hl (by omega) (fun x => some ((), sta v 0 (nI (68 * p + (8 + f))) x))
