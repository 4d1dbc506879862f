/-! PURE: drift (bits out of the kit's laws) -/
theorem b_and (x y : Int32) (i : Nat) : bt (x &&& y) i = (bt x i && bt y i) := by unfold bt; rw [Int32.toBitVec_and, BitVec.getLsbD_and]
theorem s_u : ∀ n, n < 32 → (((nI n).toUInt32 &&& Int32.toUInt32 31).toBitVec % 32).toNat = n := by decide +kernel
theorem b_ushr (n : Nat) (hn : n < 32) (x : Int32) (i : Nat) : bt ((x.toUInt32 >>> ((nI n).toUInt32 &&& Int32.toUInt32 31)).toInt32) i = bt x (n + i) := by
  show (x.toUInt32 >>> ((nI n).toUInt32 &&& Int32.toUInt32 31)).toBitVec.getLsbD i = x.toUInt32.toBitVec.getLsbD (n + i)
  rw [UInt32.toBitVec_shiftRight]
  show (x.toUInt32.toBitVec >>> (((nI n).toUInt32 &&& Int32.toUInt32 31).toBitVec % 32).toNat).getLsbD i = _
  rw [s_u n hn, BitVec.getLsbD_ushiftRight]
theorem b_32767 : ∀ i, i < 32 → bt 32767 i = decide (i < 15) := by decide +kernel
theorem got_eq (x : Int32) : (ushr x 16) &&& 32767 = (x >>> ((16 : Int32) &&& 31)) &&& 32767 := by
  apply b_ext
  intro i hi
  rw [b_and, b_and, b_32767 i hi]
  by_cases h : i < 15
  · have e1 : bt (ushr x 16) i = bt x (16 + i) := b_ushr 16 (by omega) x i
    have e2 : bt (x >>> ((16 : Int32) &&& 31)) i = if 16 + i < 32 then bt x (16 + i) else bt x 31 := b_sshr 16 (by omega) x hi
    rw [e1, e2, if_pos (by omega)]
  · rw [decide_eq_false h, Bool.and_false, Bool.and_false]
def got (x : Int32) : Nat := Int32.toNatClampNeg ((ushr x 16) &&& 32767)
theorem got_n (x : Int32) : (ushr x 16) &&& 32767 = nI (got x) ∧ got x < 32768 := by
  obtain ⟨j, j1, j2⟩ := pk_andE (ushr x 16) (m := 32767) 15 (by decide +kernel)
  unfold got
  rw [j2, cl (by omega)]
  exact ⟨rfl, j1⟩
theorem irm_n {a d : Nat} (ha : a < 2 ^ 31) (h0 : 0 < d) (hd : d < 2 ^ 31) : irm (nI a) (nI d) = nI (a % d) := pk_rem ha h0 hd
/-- a page with other lengths -/
def lp (P L : Nat → Nat) : Nat → Nat := fun k => if 8 ≤ k ∧ k < 16 then L (k - 8) else P k
theorem lp_l (P L : Nat → Nat) {f : Nat} (h : f < 8) : lp P L (8 + f) = L f := by
  unfold lp
  rw [if_pos ⟨by omega, by omega⟩, show 8 + f - 8 = f by omega]
theorem lp_o (P L : Nat → Nat) {k : Nat} (h : k < 8 ∨ 16 ≤ k) : lp P L k = P k := by
  unfold lp
  rw [if_neg (by omega)]
theorem lp_ok {c jn : Nat} {P L : Nat → Nat} (h : PgOK c jn P) (hc : c ≤ 4) (hL : ∀ f, f < 2 * c → L f ≤ 99) : PgOK c jn (lp P L) := by
  obtain ⟨p1, p2, p3, p4, p5, p6, p7⟩ := h
  refine ⟨by rw [lp_o P L (by omega)]; exact p1, by rw [lp_o P L (by omega)]; exact p2, fun f hf => ?_, fun f hf => ?_, fun f hf => ?_, fun f hf => ?_, fun f hf => ?_⟩
  · rw [lp_o P L (k := f) (by omega), lp_o P L (k := 16 + f) (by omega), lp_l P L (f := f) (by omega)]
    exact ⟨(p3 f hf).1, hL f hf, (p3 f hf).2.2⟩
  · rw [lp_o P L (by omega), lp_o P L (by omega), lp_o P L (by omega), lp_o P L (by omega)]; exact p4 f hf
  · rw [lp_o P L (by omega), lp_o P L (by omega)]; exact p5 f hf
  · rw [lp_o P L (by omega)] at hf
    rw [lp_o P L (by omega), lp_o P L (by omega)]; exact p6 f hf
  · rw [lp_o P L (by omega)] at hf
    rw [lp_o P L (by omega), lp_o P L (by omega)]; exact p7 f hf
theorem lp_S (P L : Nat → Nat) : stg (lp P L) 0 (lp P L 46) = stg P 0 (P 46) := by
  funext m
  rw [lp_o P L (by omega)]
  exact stg_c (fun k hk => lp_o P L (by omega)) 0 _ m
theorem lp_lw (P L : Nat → Nat) {a l0 l1 : Nat} (ha : a < 4) (k : Nat) : lw (lp P L) a l0 l1 k = lp P (pu (pu L (2 * a) l0) (2 * a + 1) l1) k := by
  by_cases h1 : k = 8 + 2 * a
  · rw [h1, lw_0, lp_l _ _ (by omega), pu_n _ (by omega), pu_s]
  · by_cases h2 : k = 8 + (2 * a + 1)
    · rw [h2, lw_1, lp_l _ _ (by omega), pu_s]
    · rw [lw_o _ h1 h2]
      by_cases h3 : 8 ≤ k ∧ k < 16
      · obtain ⟨f, rfl⟩ : ∃ f, k = 8 + f := ⟨k - 8, by omega⟩
        rw [lp_l _ _ (by omega), lp_l _ _ (by omega), pu_n _ (by omega), pu_n _ (by omega)]
      · rw [lp_o _ _ (by omega), lp_o _ _ (by omega)]
/-- one of the drift's hearings -/
def dA (c g : Nat) : Nat := g % c
def dB (jn g : Nat) : Nat := g / 512 % jn
def dL1 (c g : Nat) (L : Nat → Nat) : Nat → Nat := pu L (2 * dA c g + g / 8 % 2) (g / 16 % 20)
def dH (P : Nat → Nat) (c jn g : Nat) (L : Nat → Nat) : Nat × Nat × Nat × Nat := hP (lp P (dL1 c g L)) (stg P 0 (P 46)) (dA c g) (dB jn g)
def dL2 (P : Nat → Nat) (c jn g : Nat) (L : Nat → Nat) : Nat → Nat := pu (pu (dL1 c g L) (2 * dA c g) (dH P c jn g L).2.2.1) (2 * dA c g + 1) (dH P c jn g L).2.2.2
theorem dL1_le {c g : Nat} {L : Nat → Nat} (hL : ∀ f, f < 2 * c → L f ≤ 99) : ∀ f, f < 2 * c → dL1 c g L f ≤ 99 := fun f hf => by
  have := hL f hf
  unfold dL1 pu
  split <;> omega
theorem dH_bd {c jn g : Nat} {P L : Nat → Nat} (hPg : PgOK c jn P) (hc : c ≤ 4) (h0 : 0 < c) (hj : 0 < jn) (hL : ∀ f, f < 2 * c → L f ≤ 99) : 1 ≤ (dH P c jn g L).1 ∧ (dH P c jn g L).1 ≤ 3 ∧ (dH P c jn g L).2.1 ≤ 9 ∧ (dH P c jn g L).2.2.1 ≤ 99 ∧ (dH P c jn g L).2.2.2 ≤ 99 := hP_bd (lp_ok hPg hc (dL1_le hL)) (stg P 0 (P 46)) (Nat.mod_lt _ h0) (Nat.mod_lt _ hj)
theorem dL2_le {c jn g : Nat} {P L : Nat → Nat} (hPg : PgOK c jn P) (hc : c ≤ 4) (h0 : 0 < c) (hj : 0 < jn) (hL : ∀ f, f < 2 * c → L f ≤ 99) : ∀ f, f < 2 * c → dL2 P c jn g L f ≤ 99 := fun f hf => by
  have h1 := dL1_le (g := g) hL f hf
  have h2 := dH_bd (g := g) hPg hc h0 hj hL
  unfold dL2 pu
  split
  · omega
  · split <;> omega
def eqV (u u' : St) : Prop := (∀ k, (k < 24 ∨ 26 < k) → u'.1 k = u.1 k) ∧ ∀ k, k ≠ 53 → (k < 55 ∨ 58 < k) → u'.2 k = u.2 k
theorem eqV.x {u u' : St} (h : eqV u u') : eqX u u' := ⟨fun k q => h.1 k (by omega), fun k q => h.2 k (by omega) (by omega)⟩
theorem eqV.tr {u w x : St} (h : eqV u w) (h2 : eqV w x) : eqV u x := ⟨fun k q => (h2.1 k q).trans (h.1 k q), fun k q q' => (h2.2 k q q').trans (h.2 k q q')⟩
theorem eqT.v {u u' : St} (h : eqT u u') : eqV u u' := ⟨h.1, fun k q q' => h.2 k q'⟩
theorem eqV.st {u w : St} (h : eqV u w) (i x : Int32) : eqV u (sta w 53 i x) := ⟨h.1, fun k q q' => by rw [sta_m _ _ _ q]; exact h.2 k q q'⟩
theorem X_drift1 (F : Nat) (hF : 80 ≤ F) {c jn g : Nat} {P L : Nat → Nat} (u : St) (hc4 : c ≤ 4) (hj3 : jn ≤ 3) (hc0 : 0 < c) (hj0 : 0 < jn) (hPg : PgOK c jn P) (hX : CtX 0 c jn P u) (hg : g < 32768) (hL : ∀ f, f < 2 * c → L f ≤ 99) (h53 : ∀ f, f < 2 * c → u.2 53 f = nI (L f)) : ∃ u', pX6_driftVerdict F (nI g) u = some (nI (dH P c jn g L).1, u') ∧ (∀ f, f < 2 * c → u'.2 53 f = nI (dL2 P c jn g L f)) ∧ eqV u u' := by
  have ha : dA c g < c := Nat.mod_lt _ hc0
  have hb : dB jn g < jn := Nat.mod_lt _ hj0
  have y0 : u.1 0 = nI c := hX.1
  have y1 : u.1 1 = nI jn := hX.2.1
  obtain ⟨w, hw⟩ : ∃ w, w = sta u 53 (nI (2 * dA c g + g / 8 % 2)) (nI (g / 16 % 20)) := ⟨_, rfl⟩
  have ew : eqV u w := by
    rw [hw]
    exact eqV.st ⟨fun _ _ => rfl, fun _ _ _ => rfl⟩ _ _
  have w53 : ∀ f, f < 2 * c → w.2 53 f = nI (dL1 c g L f) := fun f hf => by
    rw [hw, sta_h _ _ (by omega)]
    exact puI (h53 f hf) _ Iff.rfl
  obtain ⟨y, k1, k2, k3⟩ := X_prepP F (by omega) w hc4 hj3 hPg (hX.eq (by omega) ew.x) ha hb (aw := 0) (by omega)
  have y53 : ∀ f, f < 2 * c → y.2 53 f = nI (dL1 c g L f) := fun f hf => by rw [k3.2 53 (by omega)]; exact w53 f hf
  obtain ⟨z, z1, z2, z3⟩ := X_change F (s := 0) (d := 1) (x := dL1 c g L (2 * dA c g)) y k2 (by omega) (by omega) (by omega)
  have z53 : ∀ f, f < 2 * c → z.2 53 f = nI (dL1 c g L f) := fun f hf => by rw [z3.2 53 (by omega)]; exact y53 f hf
  obtain ⟨t, t1, t2, t3⟩ := X_change F (s := 1) (d := 1) (x := dL1 c g L (2 * dA c g + 1)) z z2 (by omega) (by omega) (by omega)
  have hl := dL1_le (g := g) hL
  have hQ := lp_ok hPg hc4 hl
  have t2' : TP (lp P (dL1 c g L)) (stg P 0 (P 46)) (dA c g) (dB jn g) t := by
    obtain ⟨⟨a1, a2⟩, ⟨a3, a4⟩, ⟨a5, a6⟩, a7, a8, a9⟩ := t2
    refine ⟨⟨?_, ?_⟩, ⟨?_, ?_⟩, ⟨?_, ?_⟩, a7, ?_, ?_⟩
    · rw [a1, pu_n _ (by omega), pu_n _ (by omega), lp_o _ _ (by omega)]
    · rw [a2, pu_n _ (by omega), pu_n _ (by omega), lp_o _ _ (by omega)]
    · rw [a3, pu_n _ (by omega), show 8 * 1 + (2 * dA c g + 0) = 8 + 2 * dA c g by omega, pu_s, lp_l _ _ (by omega)]
    · rw [a4, show 8 * 1 + (2 * dA c g + 1) = 8 + (2 * dA c g + 1) by omega, pu_s, lp_l _ _ (by omega)]
    · rw [a5, pu_n _ (by omega), pu_n _ (by omega), lp_o _ _ (by omega)]
    · rw [a6, pu_n _ (by omega), pu_n _ (by omega), lp_o _ _ (by omega)]
    · rw [a8, pu_n _ (by omega), pu_n _ (by omega), lp_o _ _ (by omega)]
    · rw [a9, pu_n _ (by omega), pu_n _ (by omega), lp_o _ _ (by omega)]
  obtain ⟨r, r1, ⟨r2, r3, -⟩, r4⟩ := X_heldP F (by omega) t hQ ha hb (fun m => stg_lt hPg 0 m) t2'
  have r1' : pX5_verdictHeld F t = some (nI (dH P c jn g L).1, r) := r1
  have r2' : r.2 56 0 = nI (dH P c jn g L).2.2.1 := r2
  have r3' : r.2 56 1 = nI (dH P c jn g L).2.2.2 := r3
  have er := ((ew.tr k3.v).tr z3.v).tr (t3.v.tr r4.v)
  refine ⟨sta (sta r 53 (nI (2 * dA c g)) (nI (dH P c jn g L).2.2.1)) 53 (nI (2 * dA c g + 1)) (nI (dH P c jn g L).2.2.2), ?_, fun f hf => ?_, (er.st _ _).st _ _⟩
  · have i0 : irm (nI g) (nI c) = nI (dA c g) := irm_n (by omega) hc0 (by omega)
    have i1 : irm (nI g / 8) 2 = nI (g / 8 % 2) := by rw [L8, L2, pk_div (by omega) (by omega) (by omega)]; exact irm_n (by omega) (by omega) (by omega)
    have i2 : irm (nI g / 16) 20 = nI (g / 16 % 20) := by rw [L16, L20, pk_div (by omega) (by omega) (by omega)]; exact irm_n (by omega) (by omega) (by omega)
    have i3 : irm (nI g / 512) (nI jn) = nI (dB jn g) := by rw [show (512 : Int32) = nI 512 from rfl, pk_div (by omega) (by omega) (by omega)]; exact irm_n (by omega) hj0 (by omega)
    have n8 : nz 8 = true := by decide +kernel
    have n2 : nz 2 = true := by decide +kernel
    have n16 : nz 16 = true := by decide +kernel
    have n20 : nz 20 = true := by decide +kernel
    have n512 : nz 512 = true := by decide +kernel
    have w1 : w.1 1 = nI jn := (ew.1 1 (by omega)).trans y1
    have k1' : pX5_prepare F (nI (dA c g)) (nI (dB jn g)) 0 w = some ((), y) := k1
    have z1' : pX5_change F 0 1 (nI (dL1 c g L (2 * dA c g))) y = some ((), z) := z1
    have t1' : pX5_change F 1 1 (nI (dL1 c g L (2 * dA c g + 1))) z = some ((), t) := t1
    unfold pX6_driftVerdict pX6_prepare
    rw [y0, y1, if_neg (n0f (by omega) (by omega)), if_neg (n0f (by omega) (by omega)), nz_nI hc0 (by omega), gd_true, i0, vl_e, n8, n2, n16, n20, gd_true, gd_true, gd_true, gd_true, i1, i2, tm2, nI_add, gd_i (by omega) (by omega), vl_e, ← hw, n512, gd_true, w1, nz_nI hj0 (by omega), gd_true, i3, k1']
    simp only [bd_s]
    rw [gd_i (by omega) (by omega), cl (by omega), y53 _ (by omega), z1', bd_s, nI_s, gd_i (by omega) (by omega), cl (by omega), z53 _ (by omega), t1', bd_s, r1', bd_s, b02, gd_true, gd_i (by omega) (by omega), vl_e, tc0, r2', b12, gd_true, gd_i (by omega) (by omega), vl_e, tc1, sta_m _ _ _ (show 56 ≠ 53 by omega), r3']
  · have e53 : r.2 53 f = nI (dL1 c g L f) := by rw [r4.2 53 (by omega), t3.2 53 (by omega)]; exact z53 f hf
    rw [sta_h _ _ (by omega)]
    refine puI ?_ _ Iff.rfl
    rw [sta_h _ _ (by omega)]
    exact puI e53 _ Iff.rfl
theorem M_drift1 (F : Nat) (hF : 80 ≤ F) {c jn g : Nat} {P L : Nat → Nat} (v : St) (hc4 : c ≤ 4) (hj3 : jn ≤ 3) (hc0 : 0 < c) (hj0 : 0 < jn) (hPg : PgOK c jn P) (hE : MEnv 0 0 0 v) (hg : g < 32768) (hL : ∀ f, f < 2 * c → L f ≤ 99) (hM : PgM 4 (lp P L) v) : ∃ v', pX7_hearsOn F 272 (nI (dA c g)) (nI (dB jn g)) (sta v 0 (nI (280 + 2 * dA c g + g / 8 % 2)) (nI (g / 16 % 20))) = some (nI (dH P c jn g L).1, v') ∧ PgM 4 (lp P (dL2 P c jn g L)) v' ∧ eqR v v' := by
  have ha : dA c g < c := Nat.mod_lt _ hc0
  have hb : dB jn g < jn := Nat.mod_lt _ hj0
  have hl := dL1_le (g := g) hL
  have m0 : PgM 4 (lp P (dL1 c g L)) (sta v 0 (nI (280 + 2 * dA c g + g / 8 % 2)) (nI (g / 16 % 20))) := fun k hk => by
    rw [sta_h _ _ (by omega)]
    by_cases h3 : 8 ≤ k ∧ k < 16
    · obtain ⟨f, rfl⟩ : ∃ f, k = 8 + f := ⟨k - 8, by omega⟩
      rw [lp_l _ _ (by omega)]
      unfold dL1
      refine puI ?_ _ (by omega)
      rw [hM _ hk, lp_l _ _ (by omega)]
    · rw [if_neg (by omega), hM _ hk, lp_o _ _ (by omega), lp_o _ _ (by omega)]
  have e0 : MEnv 0 0 0 (sta v 0 (nI (280 + 2 * dA c g + g / 8 % 2)) (nI (g / 16 % 20))) := by
    obtain ⟨e1, e2, e3, e4, e5, e6, e7⟩ := hE
    exact ⟨e1, e2, e3, e4, e5, e6, by rw [sta_m _ _ _ (by omega)]; exact e7⟩
  obtain ⟨v', k1, k2, -, k4, k5, k6⟩ := M_hears F hF (p := 4) _ (by omega) hc4 hj3 (lp_ok hPg hc4 hl) m0 e0 ha hb
  rw [stm_0, lp_S] at k1 k2
  refine ⟨v', k1, fun k hk => ?_, fun k hk => k4 k hk, fun k hk => by rw [k5 k hk, sta_m _ _ _ hk], fun i hi => by rw [k6 i (by omega), sta_h _ _ (by omega), if_neg (by omega)]⟩
  rw [k2 k hk, lp_lw _ _ (by omega)]
  rfl
/-- seeds, lengths, wins -/
def dS (x : Int32) : Nat → Int32
  | 0 => x
  | i + 1 => dS x i * 1103515245 + 12345
def dLs (P : Nat → Nat) (c jn : Nat) (x : Int32) : Nat → Nat → Nat
  | 0 => fun f => P (8 + f)
  | i + 1 => dL2 P c jn (got (dS x (i + 1))) (dLs P c jn x i)
def dW (P : Nat → Nat) (c jn : Nat) (x : Int32) : Nat → Nat
  | 0 => 0
  | i + 1 => dW P c jn x i + if (dH P c jn (got (dS x (i + 1))) (dLs P c jn x i)).1 = 1 then 1 else 0
theorem dS_s (x : Int32) (i : Nat) : dS x (i + 1) = dS x i * 1103515245 + 12345 := by rw [dS]
theorem dLs_s (P : Nat → Nat) (c jn : Nat) (x : Int32) (i : Nat) : dLs P c jn x (i + 1) = dL2 P c jn (got (dS x (i + 1))) (dLs P c jn x i) := by rw [dLs]
theorem dW_s (P : Nat → Nat) (c jn : Nat) (x : Int32) (i : Nat) : dW P c jn x (i + 1) = dW P c jn x i + if (dH P c jn (got (dS x (i + 1))) (dLs P c jn x i)).1 = 1 then 1 else 0 := by rw [dW]
theorem dLs_le {c jn : Nat} {P : Nat → Nat} (hPg : PgOK c jn P) (hc : c ≤ 4) (h0 : 0 < c) (hj : 0 < jn) (x : Int32) : ∀ i f, f < 2 * c → dLs P c jn x i f ≤ 99
  | 0, f, hf => (hPg.2.2.1 f hf).2.1
  | i + 1, f, hf => by
    rw [dLs_s]
    exact dL2_le hPg hc h0 hj (dLs_le hPg hc h0 hj x i) f hf
theorem st_drift (F : Nat) (hLF : 200 ≤ F) {u v : St} (h : RR u v) (x0 x1 x2 : Int32) : ∃ (r : Int32) (u' v' : St), pX6_drift F x0 x1 x2 u = some (r, u') ∧ pX7_drift F x0 x1 x2 v = some (r, v') ∧ RR u' v' := by
  obtain ⟨c, jn, P, ⟨c1, c2, c3, hX, c5, c6, c7⟩, i0, i1, hs, ht, hw, htn, hsh, hc⟩ := id h
  have y0 : u.1 0 = nI c := hX.1
  have y1 : u.1 1 = nI jn := hX.2.1
  unfold pX6_drift pX7_drift
  rcases rng x1 (a0 := 1) (b0 := 60) (a1 := 1) (b1 := 60) 1 60 rfl rfl rfl rfl (by omega) (by omega) with ⟨n, n1, n2, rfl, e, e'⟩ | ⟨-, e, e'⟩
  · rcases rng x2 (a0 := 0) (b0 := 1) (a1 := 0) (b1 := 1) 0 1 rfl rfl rfl rfl (by omega) (by omega) with ⟨d, d1, d2, rfl, t, t'⟩ | ⟨-, t, t'⟩
    · rw [e, e', bd_s, bd_s, i10, i10, t, t', bd_s, bd_s, i10, i10, y0, y1, c5, c6]
      by_cases q0 : c = 0
      · rw [if_pos (show nI c = 0 by rw [q0]; rfl), if_pos (show nI c = 0 by rw [q0]; rfl)]
        exact ⟨_, _, _, rfl, rfl, h⟩
      · rw [if_neg (n0f q0 (by omega)), if_neg (n0f q0 (by omega))]
        by_cases q1 : jn = 0
        · rw [if_pos (show nI jn = 0 by rw [q1]; rfl), if_pos (show nI jn = 0 by rw [q1]; rfl)]
          exact ⟨_, _, _, rfl, rfl, h⟩
        · rw [if_neg (n0f q1 (by omega)), if_neg (n0f q1 (by omega))]
          have hc0 : 0 < c := by omega
          have hj0 : 0 < jn := by omega
          obtain ⟨w, g1, g2, g3, g4⟩ := X_row F (a := 1) (b := 53) (n := 8) u rfl rfl (by omega)
          obtain ⟨y, m1, m2, m3, m4, m5⟩ := M_copies F (by omega) (p := 0) (q := 4) (by omega) (by omega) (by omega) v
          have m1' : pX7_copies F 0 272 v = some ((), y) := m1
          have ew : eqV u w := ⟨fun k hk => by rw [g2], fun k q q' => g3 k q⟩
          have hy : eqR v y := ⟨fun k hk => by rw [m2], m3, fun i hi => m5 i (by omega)⟩
          have w53 : ∀ f, f < 2 * c → w.2 53 f = nI (dLs P c jn x0 0 f) := fun f hf => by
            rw [g4 f (by omega)]
            exact (hX.2.2.2.2.1 f hf).2.1
          have my : PgM 4 (lp P (dLs P c jn x0 0)) y := fun k hk => by
            rw [m4 k hk]
            by_cases h3 : 8 ≤ k ∧ k < 16
            · obtain ⟨f, rfl⟩ : ∃ f, k = 8 + f := ⟨k - 8, by omega⟩
              rw [lp_l _ _ (by omega)]
              exact c7 _ hk
            · rw [lp_o _ _ (by omega)]
              exact c7 _ hk
          have pX : ∃ u', lq3 (bX6_drift_69 F (nI n) (jX6_drift_120 F (nI d))) F 0 x0 0 w = jX6_drift_120 F (nI d) (nI (dW P c jn x0 n)) u' ∧ (∀ f, f < 2 * c → u'.2 53 f = nI (dLs P c jn x0 n f)) ∧ eqV u u' := by
            refine lq3_up (n := n) (I := fun i a b z => a = nI (dW P c jn x0 i) ∧ b = dS x0 i ∧ (∀ f, f < 2 * c → z.2 53 f = nI (dLs P c jn x0 i f)) ∧ eqV u z) (Q := fun o => ∃ u' : St, o = jX6_drift_120 F (nI d) (nI (dW P c jn x0 n)) u' ∧ (∀ f, f < 2 * c → u'.2 53 f = nI (dLs P c jn x0 n f)) ∧ eqV u u') ?_ ?_ n 0 F 0 x0 w (by omega) (by omega) ⟨rfl, rfl, w53, ew⟩
            · rintro g a b z ⟨rfl, rfl, z53, hz⟩
              refine ⟨z, ?_, z53, hz⟩
              unfold bX6_drift_69
              rw [if_pos (yle (Nat.le_refl _) (by omega))]
            · rintro g i a b z hi ⟨rfl, rfl, z53, hz⟩
              obtain ⟨y', hy'⟩ : ∃ y', y' = dS x0 (i + 1) := ⟨_, rfl⟩
              have hs' : dS x0 i * 1103515245 + 12345 = y' := by rw [hy', dS_s]
              obtain ⟨o1, o2⟩ := got_n y'
              have hl := dLs_le c3 c1 hc0 hj0 x0 i
              obtain ⟨r, r1, r2, r3⟩ := X_drift1 F (by omega) z c1 c2 hc0 hj0 c3 (hX.eq (by omega) hz.x) o2 hl z53
              have hbd := dH_bd (g := got y') c3 c1 hc0 hj0 hl
              refine Or.inr ⟨nI (dW P c jn x0 (i + 1)), y', r, ?_, rfl, hy', fun f hf => by rw [dLs_s, ← hy']; exact r2 f hf, hz.tr r3⟩
              unfold bX6_drift_69
              rw [if_neg (nle hi (by omega)), vl_e, hs', o1, r1, bd_s]
              simp only [jn_e, vl_e, nI_s]
              rw [L1, ifeq (by omega) (by omega), dW_s, ← hy']
              by_cases z1 : (dH P c jn (got y') (dLs P c jn x0 i)).1 = 1
              · rw [if_pos z1, if_pos z1]
              · rw [if_neg z1, if_neg z1, L0, nI_add]
          have pM : ∃ v', lq3 (bX7_drift_58 F (nI n) (jX7_drift_165 F (nI d))) F x0 0 0 y = jX7_drift_165 F (nI d) (nI (dW P c jn x0 n)) v' ∧ PgM 4 (lp P (dLs P c jn x0 n)) v' ∧ eqR v v' := by
            refine lq3_up (n := n) (I := fun i a b z => a = dS x0 i ∧ b = nI (dW P c jn x0 i) ∧ PgM 4 (lp P (dLs P c jn x0 i)) z ∧ eqR v z) (Q := fun o => ∃ v' : St, o = jX7_drift_165 F (nI d) (nI (dW P c jn x0 n)) v' ∧ PgM 4 (lp P (dLs P c jn x0 n)) v' ∧ eqR v v') ?_ ?_ n 0 F x0 0 y (by omega) (by omega) ⟨rfl, rfl, my, hy⟩
            · rintro g a b z ⟨rfl, rfl, hM, hz⟩
              refine ⟨z, ?_, hM, hz⟩
              unfold bX7_drift_58
              rw [if_pos (yle (Nat.le_refl _) (by omega))]
            · rintro g i a b z hi ⟨rfl, rfl, hM, hz⟩
              obtain ⟨y', hy'⟩ : ∃ y', y' = dS x0 (i + 1) := ⟨_, rfl⟩
              have hs' : dS x0 i * 1103515245 + 12345 = y' := by rw [hy', dS_s]
              obtain ⟨o1, o2⟩ := got_n y'
              rw [got_eq] at o1
              have hl := dLs_le c3 c1 hc0 hj0 x0 i
              obtain ⟨gg, hgg⟩ : ∃ gg, gg = got y' := ⟨_, rfl⟩
              rw [← hgg] at o1 o2
              obtain ⟨r, r1, r2, r3⟩ := M_drift1 F (by omega) z c1 c2 hc0 hj0 c3 (hz.env (menv0 hc)) o2 hl hM
              have hbd := dH_bd (g := gg) c3 c1 hc0 hj0 hl
              have ha : dA c gg < c := Nat.mod_lt _ hc0
              have e0 : z.1 0 = nI c := (hz.1 0 (by omega)).trans c5
              have e1 : ∀ i' x', (sta z 0 i' x').1 1 = nI jn := fun i' x' => (hz.1 1 (by omega)).trans c6
              refine Or.inr ⟨y', nI (dW P c jn x0 (i + 1)), r, ?_, hy', rfl, by rw [dLs_s, ← hy', ← hgg]; exact r2, hz.tr r3⟩
              have j0 : irm (nI gg) (nI c) = nI (dA c gg) := irm_n (by omega) hc0 (by omega)
              have j1 : irm (nI gg / 8) 2 = nI (gg / 8 % 2) := by rw [L8, L2, pk_div (by omega) (by omega) (by omega)]; exact irm_n (by omega) (by omega) (by omega)
              have j2 : irm (nI gg / 16) 20 = nI (gg / 16 % 20) := by rw [L16, L20, pk_div (by omega) (by omega) (by omega)]; exact irm_n (by omega) (by omega) (by omega)
              have j3 : irm (nI gg / 512) (nI jn) = nI (dB jn gg) := by rw [show (512 : Int32) = nI 512 from rfl, pk_div (by omega) (by omega) (by omega)]; exact irm_n (by omega) hj0 (by omega)
              have n8 : nz 8 = true := by decide +kernel
              have n2 : nz 2 = true := by decide +kernel
              have n16 : nz 16 = true := by decide +kernel
              have n20 : nz 20 = true := by decide +kernel
              have n512 : nz 512 = true := by decide +kernel
              unfold bX7_drift_58
              rw [if_neg (nle hi (by omega)), vl_e, hs', o1, vl_e, e0, nz_nI hc0 (by omega), gd_true, j0, vl_e, n8, n2, n16, n20, gd_true, gd_true, gd_true, gd_true, j1, j2, tm2, show (280 : Int32) = nI 280 from rfl, nI_add, nI_add, gd_i (by omega) (by omega), vl_e, n512, gd_true, e1, nz_nI hj0 (by omega), gd_true, j3, r1, bd_s]
              simp only [jn_e, vl_e, nI_s]
              rw [L1, ifeq (by omega) (by omega), dW_s, ← hy', ← hgg]
              by_cases z1 : (dH P c jn gg (dLs P c jn x0 i)).1 = 1
              · rw [if_pos z1, if_pos z1]
              · rw [if_neg z1, if_neg z1, L0, nI_add]
          obtain ⟨u', p1, p2, p3⟩ := pX
          obtain ⟨v', k1, k2, k3⟩ := pM
          have hR := h.eq p3.x k3.m
          rw [g1, m1', bd_s, bd_s, jn_e, jn_e, p1, k1]
          unfold jX6_drift_120 jX7_drift_165
          by_cases z : nI d = 0
          · rw [if_pos z, if_pos z]; exact ⟨_, _, _, rfl, rfl, hR⟩
          · have s1 := X_sum F (by omega) u' (arr := 53) (fun i => dLs P c jn x0 n i) (show 2 * c ≤ 8 by omega) c1 (show 8 < 1000 by omega) ((p3.1 0 (by omega)).trans y0) p2
            have s2 : pX7_lengthsOn F 272 v' = some (nI (sm (fun i => lp P (dLs P c jn x0 n) (8 + i)) (2 * c)), v') := M_lens F (by omega) v' (p := 4) (by omega) c1 ((k3.1 0 (by omega)).trans c5) k2
            rw [if_neg z, if_neg z, s1, s2, bd_s, bd_s, sm_c (2 * c) (fun i hi => lp_l P (dLs P c jn x0 n) (show i < 8 by omega))]
            exact ⟨_, _, _, rfl, rfl, hR⟩
    · rw [e, e', bd_s, bd_s, i10, i10, t, t', bd_s, bd_s, i00, i00]
      exact ⟨_, _, _, rfl, rfl, h⟩
  · rw [e, e', bd_s, bd_s, i00, i00]
    exact ⟨_, _, _, rfl, rfl, h⟩
theorem step_drift {u v : St} (h : RR u v) (x0 x1 x2 : Int32) : ∃ (r : Int32) (u' v' : St), pX6_drift LF x0 x1 x2 u = some (r, u') ∧ pX7_drift LF x0 x1 x2 v = some (r, v') ∧ RR u' v' := st_drift LF (by decide) h x0 x1 x2
