/-! PURE: text: a line by its name -/
def kM (F : Nat) (r2 : Int32) (a7 : Int32) (u8 : St) : Option (Unit × St) := gd (z01 a7) (vl (stf u8 4 a7) (fun (u9 : St) => bd (pX7_step F u9) (fun (_ : Unit) (u10 : St) => if (u10.1 9) ≤ 0 then bd (pX7_readMore F r2 u10) (fun (_ : Unit) (u11 : St) => mtail F u11) else some ((), u10))))
def kN (F : Nat) (r2 : Int32) (u6 : St) : Option (Unit × St) := if (u6.1 4) = 0 then if r2 = 10 then kM F r2 1 u6 else kM F r2 0 u6 else kM F r2 1 u6
def kO (F : Nat) (r2 : Int32) (u5 : St) : Option (Unit × St) := if r2 = 10 then if (u5.1 4) = 0 then kN F r2 u5 else bd (pX7_fails F 4 u5) (fun (_ : Unit) (u16 : St) => kN F r2 u16) else kN F r2 u5
def kP (F : Nat) (r2 : Int32) (u : St) : Option (Unit × St) := bd (pX7_fails F 5 u) (fun (_ : Unit) (u18 : St) => kO F r2 u18)
def kQ (F : Nat) (r2 : Int32) (u20 : St) : Option (Unit × St) := if r2 = 9 then gd (inb 46 68) (if (u20.2 2 (Int32.toNatClampNeg 46)) = 4 then kP F r2 u20 else kO F r2 u20) else kO F r2 u20
def kR (F : Nat) (r2 : Int32) (u19 : St) : Option (Unit × St) := if 7 < r2 then kQ F r2 u19 else if (u19.1 3) = 3 then kP F r2 u19 else kQ F r2 u19
theorem M_line_e (F : Nat) (v : St) : pX7_readLine F v = bd (pX7_nameHere F v) (fun (r2 : Int32) (u1 : St) => bd (pX7_in F (Int32.toInt64 r2) 4 10 u1) (fun (r4 : Int32) (u3 : St) => if r4 = 0 then bd (pX7_fails F 2 u3) (fun (_ : Unit) (u21 : St) => some ((), u21)) else if r2 = 8 then if (u3.1 2) = 4 then kP F r2 u3 else kR F r2 u3 else kR F r2 u3)) := rfl
theorem kM_go (F : Nat) (r : Int32) {a : Nat} (ha : a ≤ 1) (u : St) : kM F r (nI a) u = bd (pX7_step F (stf u 4 (nI a))) (fun (_ : Unit) (u10 : St) => if (u10.1 9) ≤ 0 then bd (pX7_readMore F r u10) (fun (_ : Unit) (u11 : St) => mtail F u11) else some ((), u10)) := by
  have z : z01 (nI a) = true := by
    rcases (by omega : a = 0 ∨ a = 1) with h | h
    · rw [h]; decide +kernel
    · rw [h]; decide +kernel
  unfold kM
  rw [z, gd_true, vl_e]
theorem kM_bad (F : Nat) (r : Int32) {a k : Nat} (ha : a ≤ 1) (u : St) (h : u.1 9 = nI k) (h0 : 0 < k) (h1 : k < 10) : kM F r (nI a) u = some ((), stf u 4 (nI a)) := by
  have e : (stf u 4 (nI a)).1 9 = nI k := (sf_n _ _ _ (by omega)).trans h
  rw [kM_go F r ha, M_stepB F _ e h0 h1, bd_s, e, if_neg (by rw [L0]; exact nle h0 (by omega))]
theorem kN_e (F : Nat) {K dt : Nat} (hK : K ≤ 10) (hd : dt ≤ 1) (u : St) (h4 : u.1 4 = nI dt) : kN F (nI K) u = kM F (nI K) (nI (if K = 10 then 1 else dt)) u := by
  unfold kN
  rw [h4]
  rcases (by omega : dt = 0 ∨ dt = 1) with h | h
  · rw [h, if_pos (show nI 0 = 0 from rfl), L10, ifeq (by omega) (by omega)]
    by_cases q : K = 10
    · rw [if_pos q, if_pos q]; rfl
    · rw [if_neg q, if_neg q]; rfl
  · rw [h, if_neg (n0f (by omega) (by omega)), show (if K = 10 then 1 else 1) = 1 from by split <;> rfl]
    rfl
theorem kO_e (F : Nat) {K dt : Nat} (hK : K ≤ 10) (hd : dt ≤ 1) (u : St) (h4 : u.1 4 = nI dt) (h : K = 10 → dt = 0) : kO F (nI K) u = kM F (nI K) (nI (if K = 10 then 1 else dt)) u := by
  unfold kO
  rw [L10, ifeq (by omega) (by omega)]
  by_cases q : K = 10
  · rw [if_pos q, h4, h q, if_pos (show nI 0 = 0 from rfl), kN_e F hK hd u h4, h q]
  · rw [if_neg q, kN_e F hK hd u h4]
theorem M_line_in (F : Nat) {K : Nat} (hK : K ≤ 11) (v : St) : pX7_in F (Int32.toInt64 (if K = 11 then -4 else nI K)) 4 10 v = some (b01 (4 ≤ K ∧ K ≤ 10), v) := by
  rw [show (4 : Int64) = lN 4 from by decide +kernel, show (10 : Int64) = lN 10 from by decide +kernel]
  by_cases q : K = 11
  · rw [if_pos q, M_inbN F v (by omega) (by omega), b01_f (by omega)]
  · rw [if_neg q, M_inb F (by omega) v (by omega) (by omega)]
/-- no line begins with this name -/
theorem M_lineN (F : Nat) {K p : Nat} (hK : K ≤ 11) (v : St) (hn : pX7_nameHere F v = some (if K = 11 then -4 else nI K, v)) (h9 : v.1 9 = nI 0) (h12 : v.1 12 = nI p) (hq : ¬ (4 ≤ K ∧ K ≤ 10)) : pX7_readLine F v = some ((), stf (stf v 9 2) 10 (nI p)) := by
  rw [M_line_e, hn, bd_s, M_line_in F hK, bd_s, b01_f hq, i00, M_fails F v 2 h9 h12, bd_s]
theorem M_line1 (F : Nat) {K rc : Nat} (v : St) (hn : pX7_nameHere F v = some (if K = 11 then -4 else nI K, v)) (hq : 4 ≤ K ∧ K ≤ 10) (h2 : v.1 2 = nI rc) (hrc : rc ≤ 4) : pX7_readLine F v = if K = 8 then (if rc = 4 then kP F (nI K) v else kR F (nI K) v) else kR F (nI K) v := by
  rw [M_line_e, hn, bd_s, M_line_in F (by omega), bd_s, b01_t hq, i10, if_neg (show ¬ K = 11 by omega), L8, ifeq (by omega) (by omega), h2, L4, ifeq (by omega) (by omega)]
theorem kR_e (F : Nat) {K rj d : Nat} (v : St) (hq : 4 ≤ K ∧ K ≤ 10) (h3 : v.1 3 = nI rj) (hrj : rj ≤ 3) (h46 : v.2 2 46 = nI d) (hd : d ≤ 4) : kR F (nI K) v = if (K ≤ 7 ∧ rj = 3) ∨ (K = 9 ∧ d = 4) then kP F (nI K) v else kO F (nI K) v := by
  have t46 : Int32.toNatClampNeg 46 = 46 := by decide +kernel
  have g46 : inb 46 68 = true := by decide +kernel
  have eQ : kQ F (nI K) v = if K = 9 ∧ d = 4 then kP F (nI K) v else kO F (nI K) v := by
    unfold kQ
    rw [g46, gd_true, t46, h46, L9, ifeq (by omega) (by omega), L4, ifeq (by omega) (by omega)]
    by_cases a : K = 9
    · by_cases c : d = 4
      · rw [if_pos a, if_pos c, if_pos ⟨a, c⟩]
      · rw [if_pos a, if_neg c, if_neg (fun z => c z.2)]
    · rw [if_neg a, if_neg (fun z => a z.1)]
  unfold kR
  rw [eQ]
  by_cases c7 : K ≤ 7
  · rw [if_neg (show ¬ (7 : Int32) < nI K by rw [L7]; exact nlt c7 (by omega)), h3, L3, ifeq (by omega) (by omega)]
    by_cases a : rj = 3
    · rw [if_pos a, if_pos (Or.inl ⟨c7, a⟩)]
    · rw [if_neg a, if_neg (fun z => by omega), if_neg (fun z => by omega)]
  · rw [if_pos (show (7 : Int32) < nI K by rw [L7]; exact ylt (by omega) (by omega))]
    by_cases a : K = 9 ∧ d = 4
    · rw [if_pos a, if_pos (Or.inr a)]
    · rw [if_neg a, if_neg (fun z => by omega)]
/-- a line that is good so far -/
theorem M_lineG (F : Nat) {K rc rj dt d : Nat} (v : St) (hn : pX7_nameHere F v = some (if K = 11 then -4 else nI K, v)) (hq : 4 ≤ K ∧ K ≤ 10) (h2 : v.1 2 = nI rc) (hrc : rc ≤ 4) (h3 : v.1 3 = nI rj) (hrj : rj ≤ 3) (h4 : v.1 4 = nI dt) (hdt : dt ≤ 1) (h46 : v.2 2 46 = nI d) (hd : d ≤ 4) (g1 : K = 8 → rc < 4) (g2 : K ≤ 7 → rj < 3) (g3 : K = 9 → d < 4) (g4 : K = 10 → dt = 0) : pX7_readLine F v = bd (pX7_step F (stf v 4 (nI (if K = 10 then 1 else dt)))) (fun (_ : Unit) (u10 : St) => if (u10.1 9) ≤ 0 then bd (pX7_readMore F (nI K) u10) (fun (_ : Unit) (u11 : St) => mtail F u11) else some ((), u10)) := by
  rw [M_line1 F v hn hq h2 hrc, kR_e F v hq h3 hrj h46 hd, if_neg (show ¬ ((K ≤ 7 ∧ rj = 3) ∨ (K = 9 ∧ d = 4)) from fun z => by omega)]
  have : (if K = 8 then (if rc = 4 then kP F (nI K) v else kO F (nI K) v) else kO F (nI K) v) = kO F (nI K) v := by
    by_cases q : K = 8
    · rw [if_pos q, if_neg (by omega)]
    · rw [if_neg q]
  rw [this, kO_e F (by omega) hdt v h4 g4, kM_go F _ (by split <;> omega)]
/-- a line of which there are enough -/
theorem M_lineF (F : Nat) {K rc rj dt d p : Nat} (v : St) (hn : pX7_nameHere F v = some (if K = 11 then -4 else nI K, v)) (hq : 4 ≤ K ∧ K ≤ 10) (h9 : v.1 9 = nI 0) (h12 : v.1 12 = nI p) (h2 : v.1 2 = nI rc) (hrc : rc ≤ 4) (h3 : v.1 3 = nI rj) (hrj : rj ≤ 3) (h4 : v.1 4 = nI dt) (hdt : dt ≤ 1) (h46 : v.2 2 46 = nI d) (hd : d ≤ 4) (g : (K = 8 ∧ rc = 4) ∨ (K ≤ 7 ∧ rj = 3) ∨ (K = 9 ∧ d = 4)) : pX7_readLine F v = some ((), stf (stf (stf v 9 5) 10 (nI p)) 4 (nI dt)) := by
  have eP : kP F (nI K) v = some ((), stf (stf (stf v 9 5) 10 (nI p)) 4 (nI dt)) := by
    have e9 : (stf (stf v 9 5) 10 (nI p)).1 9 = nI 5 := by rw [sf_n _ _ _ (by omega), sf_k]; rfl
    have e4 : (stf (stf v 9 5) 10 (nI p)).1 4 = nI dt := by rw [sf_n _ _ _ (by omega), sf_n _ _ _ (by omega)]; exact h4
    unfold kP
    rw [M_fails F v 5 h9 h12, bd_s, kO_e F (by omega) hdt _ e4 (by omega), if_neg (show ¬ K = 10 by omega), kM_bad F _ hdt _ e9 (by omega) (by omega)]
  rw [M_line1 F v hn hq h2 hrc, kR_e F v hq h3 hrj h46 hd]
  by_cases q : K = 8
  · rw [if_pos q, if_pos (by omega), eP]
  · rw [if_neg q, if_pos (by omega), eP]
/-- a second docket -/
theorem M_lineD (F : Nat) {rc rj d p : Nat} (v : St) (hn : pX7_nameHere F v = some (nI 10, v)) (h9 : v.1 9 = nI 0) (h12 : v.1 12 = nI p) (h2 : v.1 2 = nI rc) (hrc : rc ≤ 4) (h3 : v.1 3 = nI rj) (hrj : rj ≤ 3) (h4 : v.1 4 = nI 1) (h46 : v.2 2 46 = nI d) (hd : d ≤ 4) : pX7_readLine F v = some ((), stf (stf (stf v 9 4) 10 (nI p)) 4 (nI 1)) := by
  have e9 : (stf (stf v 9 4) 10 (nI p)).1 9 = nI 4 := by rw [sf_n _ _ _ (by omega), sf_k]; rfl
  have e4 : (stf (stf v 9 4) 10 (nI p)).1 4 = nI 1 := by rw [sf_n _ _ _ (by omega), sf_n _ _ _ (by omega)]; exact h4
  rw [M_line1 F (K := 10) v (by rw [if_neg (by omega)]; exact hn) (by omega) h2 hrc, if_neg (by omega), kR_e F (K := 10) v (by omega) h3 hrj h46 hd, if_neg (by omega)]
  unfold kO
  rw [L10, if_pos rfl, h4, if_neg (n0f (by omega) (by omega)), M_fails F v 4 h9 h12, bd_s, kN_e F (by omega) (by omega) _ e4, if_pos rfl, kM_bad F _ (by omega) _ e9 (by omega) (by omega)]
/-- the line at the program, by its name -/
theorem X_line (F : Nat) {K : Nat} (u : St) (hK : K ≤ 11) (hx : ∀ x, x < 11 → pX2_isNamed F x u = some (if xm x = K then 1 else 0, u)) : pX2_takesLine F u = if K = 8 then bd (pX2_takesCase F u) (fun (r : Int32) (w : St) => gd (z01 r) (some (r, w))) else if K = 9 then bd (pX2_takesDraught F u) (fun (r : Int32) (w : St) => gd (z01 r) (some (r, w))) else if K = 10 then bd (pX2_takesDocket F u) (fun (r : Int32) (w : St) => gd (z01 r) (some (r, w))) else if 4 ≤ K ∧ K < 8 then bd (pX2_takesJudge F (nI (K - 4)) u) (fun (r : Int32) (w : St) => gd (z01 r) (some (r, w))) else some (0, stf u 18 2) := by
  have y : ∀ x m, x < 11 → xm x = m → K = m → pX2_isNamed F x u = some (1, u) := fun x m h1 h2 h3 => by rw [hx x h1, if_pos (by omega)]
  have z : ∀ x m, x < 11 → xm x = m → ¬ K = m → pX2_isNamed F x u = some (0, u) := fun x m h1 h2 h3 => by rw [hx x h1, if_neg (by omega)]
  unfold pX2_takesLine
  by_cases q8 : K = 8
  · rw [if_pos q8, y 0 8 (by omega) rfl q8, bd_s, i10]
  · rw [if_neg q8, z 0 8 (by omega) rfl q8, bd_s, i00]
    by_cases q9 : K = 9
    · rw [if_pos q9, y 5 9 (by omega) rfl q9, bd_s, i10]
    · rw [if_neg q9, z 5 9 (by omega) rfl q9, bd_s, i00]
      by_cases q10 : K = 10
      · rw [if_pos q10, y 6 10 (by omega) rfl q10, bd_s, i10]
      · rw [if_neg q10, z 6 10 (by omega) rfl q10, bd_s, i00, X_habit F u hK hx, bd_s]
        by_cases q : 4 ≤ K ∧ K < 8
        · rw [if_pos q, if_pos q, if_neg (m4_lt (by omega)).2.1]
        · rw [if_neg q, if_neg q, if_pos rfl]
          unfold pX2_fails
          rw [vl_e, bd_s, z01_0, gd_true]
