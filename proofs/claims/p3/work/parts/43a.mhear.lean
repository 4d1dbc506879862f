/-! PURE: the reference's hearing -/
/-- the strongest draught of a minute with one more -/
def stm (P : Nat → Nat) (aw mm ms n m : Nat) : Nat := max (if mm = m then ms else 0) (stg P aw n m)
theorem mx_lt {g a b : Nat} : g < max a b ↔ g < a ∨ g < b := by
  rw [Nat.max_def]
  split <;> omega
theorem M_blownL (F : Nat) {p aw mi g : Nat} {P : Nat → Nat} (v : St) (hp : p < 6) (hM : PgM p P v) (ha : aw < 16) (hv : v.1 15 = nI aw) (hm : mi < 100) (hg : g < 1000) (h46 : P 46 ≤ 4) (hb : ∀ i, i < P 46 → P (47 + i) < 1000 ∧ P (51 + i) < 1000) : ∀ (k i fuel : Nat), i + k = P 46 → k < fuel → ∀ (q : Prop) [Decidable q], lq2 (bX7_isBlown_26 F (nI (68 * p)) (nI mi) (nI g)) fuel (b01 (q ∨ g < stg P aw i mi)) (nI i) v = some (b01 (q ∨ g < stg P aw (P 46) mi), v)
  | k, i, 0, h1, h2, q, _ => by omega
  | 0, i, fuel + 1, h1, h2, q, _ => by
    have hi : i = P 46 := by omega
    subst hi
    rw [lq2_s]
    unfold bX7_isBlown_26
    rw [L46, nI_add, inb_nI (by omega) (by omega), gd_true, cl (by omega), hM 46 (by omega), if_pos ((leI (by omega) (by omega)).mpr (Nat.le_refl _)), z01_b01, gd_true]
  | k + 1, i, fuel + 1, h1, h2, q, dq => by
    obtain ⟨b1, b2⟩ := hb i (by omega)
    have e : lq2 (bX7_isBlown_26 F (nI (68 * p)) (nI mi) (nI g)) (fuel + 1) (b01 (q ∨ g < stg P aw i mi)) (nI i) v = lq2 (bX7_isBlown_26 F (nI (68 * p)) (nI mi) (nI g)) fuel (b01 (q ∨ g < stg P aw (i + 1) mi)) (nI (i + 1)) v := by
      rw [lq2_s]
      generalize lq2 (bX7_isBlown_26 F (nI (68 * p)) (nI mi) (nI g)) fuel = self
      unfold bX7_isBlown_26
      simp only [L46, L47, L51, L31, L0, L1, nI_add]
      rw [inb_nI (by omega) (by omega), gd_true, cl (by omega), hM 46 (by omega), if_neg (show ¬ nI (P 46) ≤ nI i from fun z => absurd ((leI (by omega) (by omega)).mp z) (by omega))]
      simp only [jn_e, hv, sh_bit aw ha i (by omega)]
      rw [inb_nI (n := 68 * p + 47 + i) (by omega) (by omega), inb_nI (n := 68 * p + 51 + i) (by omega) (by omega), cl (n := 68 * p + 47 + i) (by omega), cl (n := 68 * p + 51 + i) (by omega), show 68 * p + 47 + i = 68 * p + (47 + i) by omega, show 68 * p + 51 + i = 68 * p + (51 + i) by omega, hM (47 + i) (by omega), hM (51 + i) (by omega)]
      simp only [gd_true, b01_n0, eqI (a := P (47 + i)) (b := mi) (by omega) (by omega), leI (a := P (51 + i)) (b := g) (by omega) (by omega), show (nI 1 = nI 0) = False from eq_false (by decide), show (nI 0 = nI 0) = True from eq_true rfl, if_true, if_false]
      have key : b01 (q ∨ g < stg P aw (i + 1) mi) = if (q ∨ g < stg P aw i mi) ∨ (aw.testBit i = false ∧ P (47 + i) = mi ∧ ¬ P (51 + i) ≤ g) then nI 1 else nI 0 := by
        have t : (q ∨ g < stg P aw (i + 1) mi) ↔ ((q ∨ g < stg P aw i mi) ∨ (aw.testBit i = false ∧ P (47 + i) = mi ∧ ¬ P (51 + i) ≤ g)) := by
          rw [stg]
          by_cases d1 : aw.testBit i = false ∧ P (47 + i) = mi
          · rw [if_pos d1, mx_lt, Nat.not_le]
            constructor
            · rintro (z | z | z)
              · exact Or.inl (Or.inl z)
              · exact Or.inl (Or.inr z)
              · exact Or.inr ⟨d1.1, d1.2, z⟩
            · rintro ((z | z) | z)
              · exact Or.inl z
              · exact Or.inr (Or.inl z)
              · exact Or.inr (Or.inr z.2.2)
          · rw [if_neg d1]
            constructor
            · exact Or.inl
            · rintro (z | z)
              · exact z
              · exact absurd ⟨z.1, z.2.1⟩ d1
        unfold b01
        by_cases z : (q ∨ g < stg P aw i mi) ∨ (aw.testBit i = false ∧ P (47 + i) = mi ∧ ¬ P (51 + i) ≤ g)
        · rw [if_pos (t.mpr z), if_pos z]; rfl
        · rw [if_neg (fun y => z (t.mp y)), if_neg z]; rfl
      rw [key]
      by_cases c0 : q ∨ g < stg P aw i mi <;> by_cases c1 : aw.testBit i = false <;> by_cases c2 : P (47 + i) = mi <;> by_cases c3 : P (51 + i) ≤ g <;> simp only [c0, c1, c2, c3, if_true, if_false, true_or, or_true, false_or, or_false, true_and, and_true, false_and, and_false, not_true_eq_false, not_false_eq_true, Bool.true_eq_false, ite_self]
    rw [e]
    exact M_blownL F v hp hM ha hv hm hg h46 hb k (i + 1) fuel (by omega) (by omega) q
theorem M_blown (F : Nat) (hF : 30 ≤ F) {p aw mm ms mi g : Nat} {P : Nat → Nat} (v : St) (hp : p < 6) (hM : PgM p P v) (ha : aw < 16) (hv : v.1 15 = nI aw) (h16 : ms = 0 ∨ v.1 16 = nI mm) (h17 : v.1 17 = nI ms) (hmm : mm < 1000) (hms : ms < 1000) (hm : mi < 100) (hg : g < 1000) (h46 : P 46 ≤ 4) (hb : ∀ i, i < P 46 → P (47 + i) < 1000 ∧ P (51 + i) < 1000) : pX7_isBlown F (nI (68 * p)) (nI mi) (nI g) v = some (b01 (g < stm P aw mm ms (P 46) mi), v) := by
  have key := M_blownL F v hp hM ha hv hm hg h46 hb (P 46) 0 F (by omega) (by omega)
  have fin : ∀ (q : Prop) [Decidable q], b01 (q ∨ g < stg P aw 0 mi) = b01 q := fun q _ => by
    unfold stg b01
    by_cases c : q <;> simp [c]
  unfold pX7_isBlown
  simp only [jn_e, L0, L1, h17]
  rw [ifle (by omega) (by omega)]
  by_cases c1 : ms ≤ g
  · rw [if_pos c1]
    have := key False
    rw [fin False] at this
    rw [show nI 0 = b01 False from rfl]
    rw [show (b01 False : Int32) = nI 0 from rfl] at this ⊢
    rw [this]
    congr 2
    unfold b01 stm
    have : (False ∨ g < stg P aw (P 46) mi) ↔ g < max (if mm = mi then ms else 0) (stg P aw (P 46) mi) := by
      rw [mx_lt]
      constructor
      · rintro (z | z)
        · exact z.elim
        · exact Or.inr z
      · rintro (z | z)
        · split at z <;> omega
        · exact Or.inr z
    simp only [this]
  · rw [if_neg c1]
    have h16' : v.1 16 = nI mm := h16.resolve_left (by omega)
    rw [h16', ifeq (by omega) (by omega)]
    by_cases c2 : mm = mi
    · rw [if_pos c2]
      have := key True
      rw [fin True] at this
      rw [show (b01 True : Int32) = nI 1 from rfl] at this
      rw [this]
      congr 2
      rw [b01_t (Or.inl trivial), b01_t]
      unfold stm
      rw [if_pos c2, mx_lt]
      exact Or.inl (by omega)
    · rw [if_neg c2]
      have := key False
      rw [fin False] at this
      rw [show (b01 False : Int32) = nI 0 from rfl] at this
      rw [this]
      congr 2
      unfold b01 stm
      have : (False ∨ g < stg P aw (P 46) mi) ↔ g < max (if mm = mi then ms else 0) (stg P aw (P 46) mi) := by
        rw [if_neg c2, mx_lt]
        constructor
        · rintro (z | z)
          · exact z.elim
          · exact Or.inr z
        · rintro (z | z)
          · omega
          · exact Or.inr z
      simp only [this]
