/-- a page with other lengths of a case -/
def lw (P : Nat → Nat) (cc l0 l1 : Nat) : Nat → Nat := fun j => if j = 8 + 2 * cc then l0 else if j = 8 + (2 * cc + 1) then l1 else P j
theorem lw_0 (P : Nat → Nat) (cc l0 l1 : Nat) : lw P cc l0 l1 (8 + 2 * cc) = l0 := if_pos rfl
theorem lw_1 (P : Nat → Nat) (cc l0 l1 : Nat) : lw P cc l0 l1 (8 + (2 * cc + 1)) = l1 := by
  unfold lw
  rw [if_neg (by omega), if_pos rfl]
theorem lw_o (P : Nat → Nat) {cc l0 l1 j : Nat} (h : j ≠ 8 + 2 * cc) (h2 : j ≠ 8 + (2 * cc + 1)) : lw P cc l0 l1 j = P j := by
  unfold lw
  rw [if_neg h, if_neg h2]
theorem lw_self (P : Nat → Nat) (cc : Nat) : lw P cc (P (8 + 2 * cc)) (P (8 + (2 * cc + 1))) = P := by
  funext j
  unfold lw
  split
  · next h => rw [h]
  · split
    · next h => rw [h]
    · rfl
theorem stg_lw (P : Nat → Nat) (aw : Nat) {cc l0 l1 : Nat} (hc : cc < 4) : ∀ n m, stg (lw P cc l0 l1) aw n m = stg P aw n m
  | 0, m => rfl
  | n + 1, m => by
    unfold stg
    rw [stg_lw P aw hc n m, lw_o P (by omega) (by omega), lw_o P (by omega) (by omega)]
theorem M_end (F : Nat) {x : Nat} (q0 q1 : Prop) [Decidable q0] [Decidable q1] (v : St) (h : q0 ∨ q1) : jX7_hearsOn_101 F (nI x) (b01 q0) (b01 q1) v = some (nI (if q0 then (if q1 then 3 else 2) else 1), stf v 18 (nI x)) := by
  unfold jX7_hearsOn_101
  simp only [vl_e, jn_e, L0, L1, L2, L3, b01_n0]
  by_cases c0 : q0 <;> by_cases c1 : q1 <;> simp [c0, c1]
theorem n10 : (nI 1 = nI 0) = False := eq_false (by decide)
theorem n00 : (nI 0 = nI 0) = True := eq_true rfl
theorem M_loop (F : Nat) (hF : 30 ≤ F) {p aw mm ms cc jj : Nat} {P : Nat → Nat} (hp : p < 6) (hc : cc < 4) (hj : jj < 3) (k0 : P (2 * cc) ≤ 3) (k1 : P (2 * cc + 1) ≤ 3) (b3 : P (16 + 2 * cc) < 1000) (b4 : P (16 + (2 * cc + 1)) < 1000) (b5 : P (40 + jj) ≤ 3) (b7 : P (43 + jj) ≤ 9) (h46 : P 46 ≤ 4) (hb : ∀ i, i < P 46 → P (47 + i) < 1000 ∧ P (51 + i) < 1000) : ∀ (n m l0 l1 fuel : Nat) (v : St), n ≤ fuel → m + n = 10 → m ≤ P (43 + jj) → l0 < 1000 → l1 < 1000 → MEnv aw mm ms v → PgM p (lw P cc l0 l1) v →
    ∃ v', lq1 (bX7_hearsOn_3 F (nI (68 * p)) (nI cc) (nI jj) (jX7_hearsOn_101 F)) fuel (nI m) v = some (nI (hRun (bn (P (2 * cc))) (bn (P (2 * cc + 1))) (P (16 + 2 * cc)) (P (16 + (2 * cc + 1))) (P (40 + jj)) (P (43 + jj)) (stm P aw mm ms (P 46)) n m l0 l1).1, v') ∧
      PgM p (lw P cc (hRun (bn (P (2 * cc))) (bn (P (2 * cc + 1))) (P (16 + 2 * cc)) (P (16 + (2 * cc + 1))) (P (40 + jj)) (P (43 + jj)) (stm P aw mm ms (P 46)) n m l0 l1).2.2.1 (hRun (bn (P (2 * cc))) (bn (P (2 * cc + 1))) (P (16 + 2 * cc)) (P (16 + (2 * cc + 1))) (P (40 + jj)) (P (43 + jj)) (stm P aw mm ms (P 46)) n m l0 l1).2.2.2) v' ∧
      v'.1 18 = nI (hRun (bn (P (2 * cc))) (bn (P (2 * cc + 1))) (P (16 + 2 * cc)) (P (16 + (2 * cc + 1))) (P (40 + jj)) (P (43 + jj)) (stm P aw mm ms (P 46)) n m l0 l1).2.1 ∧ (∀ k, k ≠ 18 → v'.1 k = v.1 k) ∧ (∀ k, k ≠ 0 → v'.2 k = v.2 k) ∧ (∀ i, (i < 68 * p ∨ 68 * p + 68 ≤ i) → v'.2 0 i = v.2 0 i)
  | 0, m, l0, l1, fuel, v, hf, hm, hs, b1, b2, hE, hM => by omega
  | n + 1, m, l0, l1, 0, v, hf, hm, hs, b1, b2, hE, hM => by omega
  | n + 1, m, l0, l1, fuel + 1, v, hf, hm, hs, b1, b2, hE, hM => by
    have hl0 := lw_0 P cc l0 l1
    have hl1 := lw_1 P cc l0 l1
    have lo : ∀ j, (j < 8 ∨ 16 ≤ j) → lw P cc l0 l1 j = P j := fun j hj => lw_o P (by omega) (by omega)
    have hS : stm (lw P cc l0 l1) aw mm ms (lw P cc l0 l1 46) m = stm P aw mm ms (P 46) m := by
      unfold stm
      rw [lo 46 (by omega), stg_lw P aw hc]
    have o0 := M_out F hF (f := 2 * cc) (mi := m) v hp hM hE (by omega) (by omega) (by rw [hl0]; omega) (by rw [lo _ (by omega)]; omega) (by rw [lo 46 (by omega)]; exact h46) (fun i hi => by rw [lo 46 (by omega)] at hi; rw [lo _ (by omega), lo _ (by omega)]; exact hb i hi)
    have o1 := M_out F hF (f := 2 * cc + 1) (mi := m) v hp hM hE (by omega) (by omega) (by rw [hl1]; omega) (by rw [lo _ (by omega)]; omega) (by rw [lo 46 (by omega)]; exact h46) (fun i hi => by rw [lo 46 (by omega)] at hi; rw [lo _ (by omega), lo _ (by omega)]; exact hb i hi)
    rw [hl0, hS, lo _ (by omega)] at o0
    rw [hl1, hS, lo _ (by omega)] at o1
    have hsl : v.2 0 (68 * p + (43 + jj)) = nI (P (43 + jj)) := by rw [hM _ (by omega), lo _ (by omega)]
    have hg := M_goes F (jj := jj) v hp hM hc hj (by rw [hl0]; omega) (by rw [hl1]; omega) (by rw [lo _ (by omega)]; omega) (by rw [lo _ (by omega)]; omega) (by rw [lo _ (by omega)]; exact b5)
    rw [hl0, hl1, lo _ (by omega), lo _ (by omega), lo _ (by omega)] at hg
    generalize hSm : stm P aw mm ms (P 46) = S at *
    rw [lq1_s]
    generalize hself : lq1 (bX7_hearsOn_3 F (nI (68 * p)) (nI cc) (nI jj) (jX7_hearsOn_101 F)) fuel = self
    unfold bX7_hearsOn_3
    simp only [L9, L2, L1, L0, L43, pk_mul, nI_add]
    rw [if_neg (show ¬ nI 9 < nI m from fun z => absurd ((ltI (by omega) (by omega)).mp z) (by omega)), o0, bd_s, o1, bd_s, jn_e]
    simp only [b01_n0]
    rw [inb_nI (n := 68 * p + 43 + jj) (by omega) (by omega), gd_true, cl (n := 68 * p + 43 + jj) (by omega), show 68 * p + 43 + jj = 68 * p + (43 + jj) by omega, hsl, ifeq (by omega) (by omega)]
    by_cases c0 : l0 = 0 ∨ P (16 + 2 * cc) < S m
    · rw [if_pos c0, if_pos c0, M_end F _ _ v (Or.inl c0), hRun_end _ _ _ _ _ _ S n m l0 l1 (by omega)]
      refine ⟨stf v 18 (nI m), ?_, hM, rfl, fun k hk => by rw [stf_1, if_neg hk], fun k hk => rfl, fun i hi => rfl⟩
      unfold hEnd
      rw [if_pos c0]
      by_cases c1 : l1 = 0 ∨ P (16 + (2 * cc + 1)) < S m
      · rw [if_pos c1, if_pos c0]
      · rw [if_neg c1, if_pos c0]
    · rw [if_neg c0]
      by_cases c1 : l1 = 0 ∨ P (16 + (2 * cc + 1)) < S m
      · rw [if_pos c1, if_neg c0, if_pos c1, M_end F _ _ v (Or.inr c1), hRun_end _ _ _ _ _ _ S n m l0 l1 (by omega)]
        refine ⟨stf v 18 (nI m), ?_, hM, rfl, fun k hk => by rw [stf_1, if_neg hk], fun k hk => rfl, fun i hi => rfl⟩
        unfold hEnd
        simp only [c0, c1, if_true, if_false]
      · rw [if_neg c1]
        by_cases c2 : m = P (43 + jj)
        · rw [if_pos c2, hg, bd_s, jn_e, hRun_end _ _ _ _ _ _ S n m l0 l1 (by omega)]
          have hd : hEnd l0 l1 (P (16 + 2 * cc)) (P (16 + (2 * cc + 1))) (P (40 + jj)) (S m) = if hGo l0 l1 (P (16 + 2 * cc)) (P (16 + (2 * cc + 1))) (P (40 + jj)) = 0 then 2 else 1 := by
            unfold hEnd
            rw [if_neg c0, if_neg c1]
          have hgb : hGo l0 l1 (P (16 + 2 * cc)) (P (16 + (2 * cc + 1))) (P (40 + jj)) < 2 := by
            unfold hGo
            split <;> (try split) <;> (try split) <;> (try split) <;> omega
          by_cases c3 : hGo l0 l1 (P (16 + 2 * cc)) (P (16 + (2 * cc + 1))) (P (40 + jj)) = 0
          · have e := M_end F (x := m) True False v (Or.inl trivial)
            rw [show (b01 True : Int32) = nI 1 from rfl, show (b01 False : Int32) = nI 0 from rfl] at e
            simp only [c3, jn_e, n10, n00, if_true, if_false]
            rw [e]
            refine ⟨stf v 18 (nI m), ?_, hM, rfl, fun k hk => by rw [stf_1, if_neg hk], fun k hk => rfl, fun i hi => rfl⟩
            rw [hd, if_pos c3]
            rfl
          · have c4 : hGo l0 l1 (P (16 + 2 * cc)) (P (16 + (2 * cc + 1))) (P (40 + jj)) = 1 := by omega
            have e := M_end F (x := m) False True v (Or.inr trivial)
            rw [show (b01 True : Int32) = nI 1 from rfl, show (b01 False : Int32) = nI 0 from rfl] at e
            simp only [c4, jn_e, n10, n00, if_true, if_false]
            rw [e]
            refine ⟨stf v 18 (nI m), ?_, hM, rfl, fun k hk => by rw [stf_1, if_neg hk], fun k hk => rfl, fun i hi => rfl⟩
            rw [hd, if_neg c3]
            rfl
        · rw [if_neg c2, if_neg c0, if_neg c1, hRun_on _ _ _ _ _ _ S n m l0 l1 (by omega)]
          have h1 : v.2 1 = u0M.2 1 := hE.2.2.2.2.2.2
          have q0 := bn_bd (P (2 * cc))
          have q1 := bn_bd (P (2 * cc + 1))
          rw [M_burn F (f := 2 * cc) (k := P (2 * cc)) (l := l0) v hp (by omega) k0 b1 (by rw [hM _ (by omega), lo _ (by omega)]) (by rw [hM _ (by omega), hl0]) h1, bd_s]
          rw [M_burn F (f := 2 * cc + 1) (k := P (2 * cc + 1)) (l := l1) (sta v 0 (nI (68 * p + (8 + 2 * cc))) (nI (l0 - bn (P (2 * cc))))) hp (by omega) k1 b2 (by
            rw [sta_2, if_pos rfl, cl (by omega), upd_n (by omega), hM _ (by omega), lo _ (by omega)]) (by
            rw [sta_2, if_pos rfl, cl (by omega), upd_n (by omega), hM _ (by omega), hl1]) (by rw [sta_m _ _ _ (by omega)]; exact h1), bd_s]
          generalize hw : sta (sta v 0 (nI (68 * p + (8 + 2 * cc))) (nI (l0 - bn (P (2 * cc))))) 0 (nI (68 * p + (8 + (2 * cc + 1)))) (nI (l1 - bn (P (2 * cc + 1)))) = w
          have w1 : w.1 = v.1 := by rw [← hw]; rfl
          have w2 : ∀ k, k ≠ 0 → w.2 k = v.2 k := fun k hk => by rw [← hw, sta_2, if_neg hk, sta_2, if_neg hk]
          have w0 : ∀ i, w.2 0 i = if i = 68 * p + (8 + (2 * cc + 1)) then nI (l1 - bn (P (2 * cc + 1))) else if i = 68 * p + (8 + 2 * cc) then nI (l0 - bn (P (2 * cc))) else v.2 0 i := fun i => by
            rw [← hw, sta_2, if_pos rfl, cl (by omega), sta_2, if_pos rfl, cl (by omega)]
            rfl
          clear hw
          subst hSm
          subst hself
          obtain ⟨v', g1, g2, g3, g4, g5, g6⟩ := M_loop F hF hp hc hj k0 k1 b3 b4 b5 b7 h46 hb n (m + 1) (l0 - bn (P (2 * cc))) (l1 - bn (P (2 * cc + 1))) fuel w (by omega) (by omega) (by omega) (by omega) (by omega) (by
            obtain ⟨e1, e2, e3, e4, e5, e6, e7⟩ := hE
            exact ⟨e1, by rw [w1]; exact e2, by rw [w1]; exact e3, by rw [w1]; exact e4, e5, e6, by rw [w2 1 (by omega)]; exact e7⟩) (fun k hk => by
            rw [w0]
            unfold lw
            by_cases d1 : k = 8 + (2 * cc + 1)
            · rw [if_pos (by omega), if_neg (by omega), if_pos d1]
            · rw [if_neg (by omega)]
              by_cases d2 : k = 8 + 2 * cc
              · rw [if_pos (by omega), if_pos d2]
              · rw [if_neg (by omega), if_neg d2, if_neg d1, hM k hk, lw_o P d2 d1])
          refine ⟨v', g1, g2, g3, fun k hk => by rw [g4 k hk, w1], fun k hk => by rw [g5 k hk, w2 k hk], fun i hi => by rw [g6 i hi, w0, if_neg (by omega), if_neg (by omega)]⟩
