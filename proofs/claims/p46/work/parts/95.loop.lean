theorem l_six {i L : Nat} (hL : L ≤ 384) (q : ¬ nI L - 6 < nI i) (hi : i < 1000 := by omega) : i + 6 ≤ L := by
  have e : (nI L - 6).toInt = (L : Int) - 6 := by
    rw [Int32.toInt_sub, nI_toInt (by omega), show (6 : Int32).toInt = 6 from by decide, Int.bmod_eq_of_le (by omega) (by omega)]
  have h := Int32.not_lt.mp q
  have h2 := Int32.le_iff_toInt_le.mp h
  rw [e, nI_toInt (by omega)] at h2
  omega
set_option maxRecDepth 100000 in
set_option maxHeartbeats 4000000 in
theorem law_loop {p : Program} {l : Launch} {e : Env} {s : State} {m : MethodId} {below : List Frame} {meth : Method} {c : Code} {D : va_G} {cI cZ : ClassId} {ad ad2 : Nat → Nat} {tBURNS tFLAME_BOUNDS : Nat} {tS : Option Nat} {adK adV : Nat → Nat} {b L : Nat} {xs : Nat → Int32} (hL : L ≤ 384) (hX : va_X b L xs s s.heap) (hbl : b < s.heap.size) (hbA : ¬ s.heap.size ≤ b) (C : Cx p s m #[Value.ref b] meth c D [(cI, .int), (cZ, .boolean)] (EX tBURNS tFLAME_BOUNDS tS adK adV) (fun q : Nat => s.heap.size ≤ q) cL_law 4 (some .boolean) RL wsL_law) (hr : meth.sig.returnType = ret) (hlocks : meth.locks = false) : ∀ (k i : Nat) (u v : St), i ≤ 390 → L < i + k → RR u v → KX p l e room_1 s m #[Value.ref b] below meth c D (fun q : Nat => s.heap.size ≤ q) 4 91 1902 (lw_Z below #[Value.ref b] s) 18 [(0, .ref b), (1, .ref (ad 0)), (2, .ref (ad2 0)), (3, .int (nI i))] [] (wX ad cI cZ u ++ wM ad2 cI cZ v)
  | 0, i, u, v, hi9, hk, hR => by
    refine k_iload_n C 18 3 dL_law_18 rfl ?_
    refine k_aload_n C 19 0 dL_law_19 rfl ?_
    refine k_slen C 20 hX hbl hbA dL_law_20 ?_
    refine k_bipush C 21 6 dL_law_21 rfl ?_
    refine k_isub C 23 dL_law_23 ?_
    refine k_icmp_gt C 24 1729 dL_law_24 (by decide) (fun q => ?_) (fun q => ?_)
    · skip
      refine k_iconst C 1729 1 dL_law_1729 rfl ?_
      intro H locs ls h1 h2 h3 h4
      refine va_forget (fun q hq => h4.2.2 q hq) ?_
      exact lw_ret C.1 C.2.1 hr hlocks dL_law_1730
    · have h6 : i + 6 ≤ L := l_six hL q
      omega

  | k + 1, i, u, v, hi9, hk, hR => by
    refine k_iload_n C 18 3 dL_law_18 rfl ?_
    refine k_aload_n C 19 0 dL_law_19 rfl ?_
    refine k_slen C 20 hX hbl hbA dL_law_20 ?_
    refine k_bipush C 21 6 dL_law_21 rfl ?_
    refine k_isub C 23 dL_law_23 ?_
    refine k_icmp_gt C 24 1729 dL_law_24 (by decide) (fun q => ?_) (fun q => ?_)
    · skip
      refine k_iconst C 1729 1 dL_law_1729 rfl ?_
      intro H locs ls h1 h2 h3 h4
      refine va_forget (fun q hq => h4.2.2 q hq) ?_
      exact lw_ret C.1 C.2.1 hr hlocks dL_law_1730
    · have h6 : i + 6 ≤ L := l_six hL q
      refine k_aload_n C 27 0 dL_law_27 rfl ?_
      refine k_iload_n C 28 3 dL_law_28 rfl ?_
      refine k_sld C 29 hX hbl hbA (vp_in_nI (by omega) (by omega)) dL_law_29 ?_
      refine k_bipush C 30 63 dL_law_30 rfl ?_
      refine k_iand C 32 dL_law_32 ?_
      have nxt : ∀ u' v', RR u' v' → KX p l e room_1 s m #[Value.ref b] below meth c D (fun q : Nat => s.heap.size ≤ q) 4 91 1902 (lw_Z below #[Value.ref b] s) 1723 [(0, .ref b), (1, .ref (ad 0)), (2, .ref (ad2 0)), (3, .int (nI i))] [] (wX ad cI cZ u' ++ wM ad2 cI cZ v') := fun u' v' hR' => by
        refine k_iinc C 1723 3 (nI (i + 6)) [(3, .int (nI (i + 6))), (0, .ref b), (1, .ref (ad 0)), (2, .ref (ad2 0))] dL_law_1723 rfl (nI_add i 6) (by decide) rfl ?_
        refine k_goto C 1726 18 dL_law_1726 (by decide) ?_
        refine k_sub [(0, .ref b), (1, .ref (ad 0)), (2, .ref (ad2 0)), (3, .int (nI (i + 6)))] [1, 2, 3, 0] rfl ?_
        exact law_loop hL hX hbl hbA C hr hlocks k (i + 6) u' v' (by omega) (by omega) hR'
      refine k_tsw C 33 228 0 dL_law_33 (by decide) rfl (by decide) ?_ (fun q0 => ?_)
      · obtain ⟨r, u', v', e1, e2, hR'⟩ := step_feed hR (xs (nI i + 1).toNatClampNeg)
        exact law_c0 hL hX hbl hbA C h6 e1 e2 (nxt u' v' hR')
      refine k_tsw C 33 251 1 dL_law_33 (by decide) rfl (by decide) ?_ (fun q1 => ?_)
      · obtain ⟨r, u', v', e1, e2, hR'⟩ := step_end hR (xs (nI i + 1).toNatClampNeg)
        exact law_c1 hL hX hbl hbA C h6 e1 e2 (nxt u' v' hR')
      refine k_tsw C 33 274 2 dL_law_33 (by decide) rfl (by decide) ?_ (fun q2 => ?_)
      · obtain ⟨r, u', v', e1, e2, hR'⟩ := step_text hR 
        exact law_c2 hL hX hbl hbA C h6 e1 e2 (nxt u' v' hR')
      refine k_tsw C 33 287 3 dL_law_33 (by decide) rfl (by decide) ?_ (fun q3 => ?_)
      · obtain ⟨r, r2, u', v', e1, e2, hR'⟩ := step_fault hR 
        exact law_c3 hL hX hbl hbA C h6 e1 e2 (nxt u' v' hR')
      refine k_tsw C 33 300 4 dL_law_33 (by decide) rfl (by decide) ?_ (fun q4 => ?_)
      · obtain ⟨r, u', v', e1, e2, hR'⟩ := step_rule hR (xs (nI i + 1).toNatClampNeg)
        exact law_c4 hL hX hbl hbA C h6 e1 e2 (nxt u' v' hR')
      refine k_tsw C 33 323 5 dL_law_33 (by decide) rfl (by decide) ?_ (fun q5 => ?_)
      · obtain ⟨r, u', v', e1, e2, hR'⟩ := step_flame hR (xs (nI i + 1).toNatClampNeg) (xs (nI i + 2).toNatClampNeg) (xs (nI i + 3).toNatClampNeg)
        exact law_c5 hL hX hbl hbA C h6 e1 e2 (nxt u' v' hR')
      refine k_tsw C 33 366 6 dL_law_33 (by decide) rfl (by decide) ?_ (fun q6 => ?_)
      · obtain ⟨r, u', v', e1, e2, hR'⟩ := step_suit hR (xs (nI i + 1).toNatClampNeg) (xs (nI i + 2).toNatClampNeg)
        exact law_c6 hL hX hbl hbA C h6 e1 e2 (nxt u' v' hR')
      refine k_tsw C 33 399 7 dL_law_33 (by decide) rfl (by decide) ?_ (fun q7 => ?_)
      · obtain ⟨r, u', v', e1, e2, hR'⟩ := step_judge hR (xs (nI i + 1).toNatClampNeg) (xs (nI i + 2).toNatClampNeg)
        exact law_c7 hL hX hbl hbA C h6 e1 e2 (nxt u' v' hR')
      refine k_tsw C 33 432 8 dL_law_33 (by decide) rfl (by decide) ?_ (fun q8 => ?_)
      · obtain ⟨r, u', v', e1, e2, hR'⟩ := step_draught hR (xs (nI i + 1).toNatClampNeg) (xs (nI i + 2).toNatClampNeg)
        exact law_c8 hL hX hbl hbA C h6 e1 e2 (nxt u' v' hR')
      refine k_tsw C 33 465 9 dL_law_33 (by decide) rfl (by decide) ?_ (fun q9 => ?_)
      · obtain ⟨r, u', v', e1, e2, hR'⟩ := step_docket hR (xs (nI i + 1).toNatClampNeg) (xs (nI i + 2).toNatClampNeg)
        exact law_c9 hL hX hbl hbA C h6 e1 e2 (nxt u' v' hR')
      refine k_tsw C 33 498 10 dL_law_33 (by decide) rfl (by decide) ?_ (fun q10 => ?_)
      · obtain ⟨r, u', v', e1, e2, hR'⟩ := step_trim hR (xs (nI i + 1).toNatClampNeg) (xs (nI i + 2).toNatClampNeg) (xs (nI i + 3).toNatClampNeg) (xs (nI i + 4).toNatClampNeg)
        exact law_c10 hL hX hbl hbA C h6 e1 e2 (nxt u' v' hR')
      refine k_tsw C 33 551 11 dL_law_33 (by decide) rfl (by decide) ?_ (fun q11 => ?_)
      · obtain ⟨r, u', v', e1, e2, hR'⟩ := step_train hR (xs (nI i + 1).toNatClampNeg) (xs (nI i + 2).toNatClampNeg) (xs (nI i + 3).toNatClampNeg)
        exact law_c11 hL hX hbl hbA C h6 e1 e2 (nxt u' v' hR')
      refine k_tsw C 33 594 12 dL_law_33 (by decide) rfl (by decide) ?_ (fun q12 => ?_)
      · obtain ⟨r, u', v', e1, e2, hR'⟩ := step_blow hR (xs (nI i + 1).toNatClampNeg) (xs (nI i + 2).toNatClampNeg)
        exact law_c12 hL hX hbl hbA C h6 e1 e2 (nxt u' v' hR')
      refine k_tsw C 33 627 13 dL_law_33 (by decide) rfl (by decide) ?_ (fun q13 => ?_)
      · obtain ⟨r, u', v', e1, e2, hR'⟩ := step_calm hR (xs (nI i + 1).toNatClampNeg)
        exact law_c13 hL hX hbl hbA C h6 e1 e2 (nxt u' v' hR')
      refine k_tsw C 33 650 14 dL_law_33 (by decide) rfl (by decide) ?_ (fun q14 => ?_)
      · obtain ⟨r, u', v', e1, e2, hR'⟩ := step_plan hR (xs (nI i + 1).toNatClampNeg) (xs (nI i + 2).toNatClampNeg)
        exact law_c14 hL hX hbl hbA C h6 e1 e2 (nxt u' v' hR')
      refine k_tsw C 33 683 15 dL_law_33 (by decide) rfl (by decide) ?_ (fun q15 => ?_)
      · obtain ⟨r, u', v', e1, e2, hR'⟩ := step_cut hR (xs (nI i + 1).toNatClampNeg)
        exact law_c15 hL hX hbl hbA C h6 e1 e2 (nxt u' v' hR')
      refine k_tsw C 33 706 16 dL_law_33 (by decide) rfl (by decide) ?_ (fun q16 => ?_)
      · obtain ⟨r, u', v', e1, e2, hR'⟩ := step_hear hR (xs (nI i + 1).toNatClampNeg) (xs (nI i + 2).toNatClampNeg)
        exact law_c16 hL hX hbl hbA C h6 e1 e2 (nxt u' v' hR')
      refine k_tsw C 33 739 17 dL_law_33 (by decide) rfl (by decide) ?_ (fun q17 => ?_)
      · obtain ⟨r, u', v', e1, e2, hR'⟩ := step_appeal hR (xs (nI i + 1).toNatClampNeg)
        exact law_c17 hL hX hbl hbA C h6 e1 e2 (nxt u' v' hR')
      refine k_tsw C 33 762 18 dL_law_33 (by decide) rfl (by decide) ?_ (fun q18 => ?_)
      · obtain ⟨r, u', v', e1, e2, hR'⟩ := step_foretell hR (xs (nI i + 1).toNatClampNeg) (xs (nI i + 2).toNatClampNeg) (xs (nI i + 3).toNatClampNeg)
        exact law_c18 hL hX hbl hbA C h6 e1 e2 (nxt u' v' hR')
      refine k_tsw C 33 805 19 dL_law_33 (by decide) rfl (by decide) ?_ (fun q19 => ?_)
      · obtain ⟨r, u', v', e1, e2, hR'⟩ := step_runs hR (xs (nI i + 1).toNatClampNeg)
        exact law_c19 hL hX hbl hbA C h6 e1 e2 (nxt u' v' hR')
      refine k_tsw C 33 828 20 dL_law_33 (by decide) rfl (by decide) ?_ (fun q20 => ?_)
      · obtain ⟨r, u', v', e1, e2, hR'⟩ := step_ahead hR (xs (nI i + 1).toNatClampNeg)
        exact law_c20 hL hX hbl hbA C h6 e1 e2 (nxt u' v' hR')
      refine k_tsw C 33 851 21 dL_law_33 (by decide) rfl (by decide) ?_ (fun q21 => ?_)
      · obtain ⟨r, u', v', e1, e2, hR'⟩ := step_friends hR (xs (nI i + 1).toNatClampNeg) (xs (nI i + 2).toNatClampNeg)
        exact law_c21 hL hX hbl hbA C h6 e1 e2 (nxt u' v' hR')
      refine k_tsw C 33 884 22 dL_law_33 (by decide) rfl (by decide) ?_ (fun q22 => ?_)
      · obtain ⟨r, u', v', e1, e2, hR'⟩ := step_wax hR (xs (nI i + 1).toNatClampNeg) (xs (nI i + 2).toNatClampNeg) (xs (nI i + 3).toNatClampNeg)
        exact law_c22 hL hX hbl hbA C h6 e1 e2 (nxt u' v' hR')
      refine k_tsw C 33 927 23 dL_law_33 (by decide) rfl (by decide) ?_ (fun q23 => ?_)
      · obtain ⟨r, u', v', e1, e2, hR'⟩ := step_least hR (xs (nI i + 1).toNatClampNeg) (xs (nI i + 2).toNatClampNeg) (xs (nI i + 3).toNatClampNeg)
        exact law_c23 hL hX hbl hbA C h6 e1 e2 (nxt u' v' hR')
      refine k_tsw C 33 970 24 dL_law_33 (by decide) rfl (by decide) ?_ (fun q24 => ?_)
      · obtain ⟨r, u', v', e1, e2, hR'⟩ := step_hand hR (xs (nI i + 1).toNatClampNeg) (xs (nI i + 2).toNatClampNeg) (xs (nI i + 3).toNatClampNeg)
        exact law_c24 hL hX hbl hbA C h6 e1 e2 (nxt u' v' hR')
      refine k_tsw C 33 1013 25 dL_law_33 (by decide) rfl (by decide) ?_ (fun q25 => ?_)
      · obtain ⟨r, u', v', e1, e2, hR'⟩ := step_turn hR (xs (nI i + 1).toNatClampNeg) (xs (nI i + 2).toNatClampNeg) (xs (nI i + 3).toNatClampNeg)
        exact law_c25 hL hX hbl hbA C h6 e1 e2 (nxt u' v' hR')
      refine k_tsw C 33 1056 26 dL_law_33 (by decide) rfl (by decide) ?_ (fun q26 => ?_)
      · obtain ⟨r, u', v', e1, e2, hR'⟩ := step_sure hR (xs (nI i + 1).toNatClampNeg) (xs (nI i + 2).toNatClampNeg) (xs (nI i + 3).toNatClampNeg)
        exact law_c26 hL hX hbl hbA C h6 e1 e2 (nxt u' v' hR')
      refine k_tsw C 33 1099 27 dL_law_33 (by decide) rfl (by decide) ?_ (fun q27 => ?_)
      · obtain ⟨r, u', v', e1, e2, hR'⟩ := step_rest hR (xs (nI i + 1).toNatClampNeg) (xs (nI i + 2).toNatClampNeg) (xs (nI i + 3).toNatClampNeg)
        exact law_c27 hL hX hbl hbA C h6 e1 e2 (nxt u' v' hR')
      refine k_tsw C 33 1142 28 dL_law_33 (by decide) rfl (by decide) ?_ (fun q28 => ?_)
      · obtain ⟨r, u', v', e1, e2, hR'⟩ := step_share hR (xs (nI i + 1).toNatClampNeg) (xs (nI i + 2).toNatClampNeg)
        exact law_c28 hL hX hbl hbA C h6 e1 e2 (nxt u' v' hR')
      refine k_tsw C 33 1175 29 dL_law_33 (by decide) rfl (by decide) ?_ (fun q29 => ?_)
      · obtain ⟨r, u', v', e1, e2, hR'⟩ := step_swap hR (xs (nI i + 1).toNatClampNeg) (xs (nI i + 2).toNatClampNeg)
        exact law_c29 hL hX hbl hbA C h6 e1 e2 (nxt u' v' hR')
      refine k_tsw C 33 1208 30 dL_law_33 (by decide) rfl (by decide) ?_ (fun q30 => ?_)
      · obtain ⟨r, u', v', e1, e2, hR'⟩ := step_luck hR (xs (nI i + 1).toNatClampNeg) (xs (nI i + 2).toNatClampNeg) (xs (nI i + 3).toNatClampNeg) (xs (nI i + 4).toNatClampNeg) (xs (nI i + 5).toNatClampNeg)
        exact law_c30 hL hX hbl hbA C h6 e1 e2 (nxt u' v' hR')
      refine k_tsw C 33 1271 31 dL_law_33 (by decide) rfl (by decide) ?_ (fun q31 => ?_)
      · obtain ⟨r, u', v', e1, e2, hR'⟩ := step_mean hR (xs (nI i + 1).toNatClampNeg) (xs (nI i + 2).toNatClampNeg) (xs (nI i + 3).toNatClampNeg)
        exact law_c31 hL hX hbl hbA C h6 e1 e2 (nxt u' v' hR')
      refine k_tsw C 33 1314 32 dL_law_33 (by decide) rfl (by decide) ?_ (fun q32 => ?_)
      · obtain ⟨r, u', v', e1, e2, hR'⟩ := step_see hR (xs (nI i + 1).toNatClampNeg) (xs (nI i + 2).toNatClampNeg) (xs (nI i + 3).toNatClampNeg)
        exact law_c32 hL hX hbl hbA C h6 e1 e2 (nxt u' v' hR')
      refine k_tsw C 33 1357 33 dL_law_33 (by decide) rfl (by decide) ?_ (fun q33 => ?_)
      · obtain ⟨r, u', v', e1, e2, hR'⟩ := step_forget hR (xs (nI i + 1).toNatClampNeg)
        exact law_c33 hL hX hbl hbA C h6 e1 e2 (nxt u' v' hR')
      refine k_tsw C 33 1380 34 dL_law_33 (by decide) rfl (by decide) ?_ (fun q34 => ?_)
      · obtain ⟨r, u', v', e1, e2, hR'⟩ := step_habits hR (xs (nI i + 1).toNatClampNeg)
        exact law_c34 hL hX hbl hbA C h6 e1 e2 (nxt u' v' hR')
      refine k_tsw C 33 1403 35 dL_law_33 (by decide) rfl (by decide) ?_ (fun q35 => ?_)
      · obtain ⟨r, u', v', e1, e2, hR'⟩ := step_slows hR (xs (nI i + 1).toNatClampNeg)
        exact law_c35 hL hX hbl hbA C h6 e1 e2 (nxt u' v' hR')
      refine k_tsw C 33 1426 36 dL_law_33 (by decide) rfl (by decide) ?_ (fun q36 => ?_)
      · obtain ⟨r, u', v', e1, e2, hR'⟩ := step_ask hR (xs (nI i + 1).toNatClampNeg) (xs (nI i + 2).toNatClampNeg)
        exact law_c36 hL hX hbl hbA C h6 e1 e2 (nxt u' v' hR')
      refine k_tsw C 33 1459 37 dL_law_33 (by decide) rfl (by decide) ?_ (fun q37 => ?_)
      · obtain ⟨r, u', v', e1, e2, hR'⟩ := step_drift hR (xs (nI i + 1).toNatClampNeg) (xs (nI i + 2).toNatClampNeg) (xs (nI i + 3).toNatClampNeg)
        exact law_c37 hL hX hbl hbA C h6 e1 e2 (nxt u' v' hR')
      refine k_tsw C 33 1502 38 dL_law_33 (by decide) rfl (by decide) ?_ (fun q38 => ?_)
      · obtain ⟨r, u', v', e1, e2, hR'⟩ := step_keep hR (xs (nI i + 1).toNatClampNeg)
        exact law_c38 hL hX hbl hbA C h6 e1 e2 (nxt u' v' hR')
      refine k_tsw C 33 1525 39 dL_law_33 (by decide) rfl (by decide) ?_ (fun q39 => ?_)
      · obtain ⟨r, u', v', e1, e2, hR'⟩ := step_back hR (xs (nI i + 1).toNatClampNeg)
        exact law_c39 hL hX hbl hbA C h6 e1 e2 (nxt u' v' hR')
      refine k_tsw C 33 1548 40 dL_law_33 (by decide) rfl (by decide) ?_ (fun q40 => ?_)
      · obtain ⟨r, u', v', e1, e2, hR'⟩ := step_sheet hR (xs (nI i + 1).toNatClampNeg) (xs (nI i + 2).toNatClampNeg) (xs (nI i + 3).toNatClampNeg)
        exact law_c40 hL hX hbl hbA C h6 e1 e2 (nxt u' v' hR')
      refine k_tsw C 33 1591 41 dL_law_33 (by decide) rfl (by decide) ?_ (fun q41 => ?_)
      · obtain ⟨r, u', v', e1, e2, hR'⟩ := step_lay hR (xs (nI i + 1).toNatClampNeg) (xs (nI i + 2).toNatClampNeg) (xs (nI i + 3).toNatClampNeg)
        exact law_c41 hL hX hbl hbA C h6 e1 e2 (nxt u' v' hR')
      refine k_tsw C 33 1634 42 dL_law_33 (by decide) rfl (by decide) ?_ (fun q42 => ?_)
      · obtain ⟨r, u', v', e1, e2, hR'⟩ := step_read hR (xs (nI i + 1).toNatClampNeg) (xs (nI i + 2).toNatClampNeg) (xs (nI i + 3).toNatClampNeg) (xs (nI i + 4).toNatClampNeg)
        exact law_c42 hL hX hbl hbA C h6 e1 e2 (nxt u' v' hR')
      refine k_tsw C 33 1687 43 dL_law_33 (by decide) rfl (by decide) ?_ (fun q43 => ?_)
      · obtain ⟨r, u', v', e1, e2, hR'⟩ := step_torn hR 
        exact law_c43 hL hX hbl hbA C h6 e1 e2 (nxt u' v' hR')
      refine k_tsw C 33 1700 44 dL_law_33 (by decide) rfl (by decide) ?_ (fun q44 => ?_)
      · obtain ⟨r, u', v', e1, e2, hR'⟩ := step_count hR (xs (nI i + 1).toNatClampNeg)
        exact law_c44 hL hX hbl hbA C h6 e1 e2 (nxt u' v' hR')
      refine k_tswD C 33 1723 dL_law_33 (by have r0 := lv_neT (a := 0) q0 rfl; have r1 := lv_neT (a := 1) q1 rfl; have r2 := lv_neT (a := 2) q2 rfl; have r3 := lv_neT (a := 3) q3 rfl; have r4 := lv_neT (a := 4) q4 rfl; have r5 := lv_neT (a := 5) q5 rfl; have r6 := lv_neT (a := 6) q6 rfl; have r7 := lv_neT (a := 7) q7 rfl; have r8 := lv_neT (a := 8) q8 rfl; have r9 := lv_neT (a := 9) q9 rfl; have r10 := lv_neT (a := 10) q10 rfl; have r11 := lv_neT (a := 11) q11 rfl; have r12 := lv_neT (a := 12) q12 rfl; have r13 := lv_neT (a := 13) q13 rfl; have r14 := lv_neT (a := 14) q14 rfl; have r15 := lv_neT (a := 15) q15 rfl; have r16 := lv_neT (a := 16) q16 rfl; have r17 := lv_neT (a := 17) q17 rfl; have r18 := lv_neT (a := 18) q18 rfl; have r19 := lv_neT (a := 19) q19 rfl; have r20 := lv_neT (a := 20) q20 rfl; have r21 := lv_neT (a := 21) q21 rfl; have r22 := lv_neT (a := 22) q22 rfl; have r23 := lv_neT (a := 23) q23 rfl; have r24 := lv_neT (a := 24) q24 rfl; have r25 := lv_neT (a := 25) q25 rfl; have r26 := lv_neT (a := 26) q26 rfl; have r27 := lv_neT (a := 27) q27 rfl; have r28 := lv_neT (a := 28) q28 rfl; have r29 := lv_neT (a := 29) q29 rfl; have r30 := lv_neT (a := 30) q30 rfl; have r31 := lv_neT (a := 31) q31 rfl; have r32 := lv_neT (a := 32) q32 rfl; have r33 := lv_neT (a := 33) q33 rfl; have r34 := lv_neT (a := 34) q34 rfl; have r35 := lv_neT (a := 35) q35 rfl; have r36 := lv_neT (a := 36) q36 rfl; have r37 := lv_neT (a := 37) q37 rfl; have r38 := lv_neT (a := 38) q38 rfl; have r39 := lv_neT (a := 39) q39 rfl; have r40 := lv_neT (a := 40) q40 rfl; have r41 := lv_neT (a := 41) q41 rfl; have r42 := lv_neT (a := 42) q42 rfl; have r43 := lv_neT (a := 43) q43 rfl; have r44 := lv_neT (a := 44) q44 rfl; omega) (by decide) ?_
      exact nxt u v hR

set_option maxRecDepth 100000 in
set_option maxHeartbeats 4000000 in
theorem whole_start {p : Program} {e : Env} {s : State} {m : MethodId} {below : List Frame} {meth : Method} {c : Code} (l : Launch) (hflags : l.flags = flags0) {b L : Nat} {xs : Nat → Int32} (hL : L ≤ 384) (C0 : lw_At p s m meth c b L xs) : W p l e room_1 s m #[Value.ref b] below meth c s.heap [] 0 0 (lw_Z below #[Value.ref b] s) (entryFrame m ([Value.ref b] : List Value).toArray 4) := by
  obtain ⟨hx, hb, hr, hml, hown, hts, hX, hbl, hlocks, hgv⟩ := C0
  have hbA : ¬ s.heap.size ≤ b := Nat.not_le.mpr hbl
  obtain ⟨tBURNS, tFLAME_BOUNDS, tS, adK, adV, hEX⟩ := start_env hts hgv
  obtain ⟨D, cI, cZ, hK⟩ := start_K hts
  have C : Cx p s m #[Value.ref b] meth c D [(cI, .int), (cZ, .boolean)] (EX tBURNS tFLAME_BOUNDS tS adK adV) (fun q : Nat => s.heap.size ≤ q) cL_law 4 (some .boolean) RL wsL_law := ⟨hx, hb, hml, hown, fun w h => hts w (wsL_law_in w h), hK, fun q h => h, hlocks, hEX, hr⟩
  have CK : Cx p s m #[Value.ref b] meth c D [(cI, .int), (cZ, .boolean)] EK (fun q : Nat => s.heap.size ≤ q) cL_law 4 (some .boolean) RL wsL_law := C.env hEX.2.1
  have CM : Cx p s m #[Value.ref b] meth c D [(cI, .int), (cZ, .boolean)] E0 (fun q : Nat => s.heap.size ≤ q) cL_law 4 (some .boolean) RL wsL_law := C.env trivial
  have hl := lv_entry ([.ref b]) (n := 4) (Nat.le_of_ble_eq_true rfl)
  rw [lg_entry_eq]
  refine (?_ : KX p l e room_1 s m #[Value.ref b] below meth c D (fun q : Nat => s.heap.size ≤ q) 4 0 0 (lw_Z below #[Value.ref b] s) 0 [(0, .ref b)] [] []) _ _ _ hl (fun k q h => by simp at h) ⟨fun i j p q h => by simp at h, fun k q h => by simp at h⟩ va_S.rf
  refine k_new (ci := 6) (Cn := RX6) (T := TX6) C 0 tyX6 [.null, .null, .null, .null, .null, .null, .null, .null, .null, .null, .null, .int 0] (fun w h => inlX6 w h) tyX6_ok (by decide +kernel) (by decide +kernel) (by decide +kernel) rfl (fun j hj => match j, hj with | 0, _ => rfl | 1, _ => rfl | 2, _ => rfl | 3, _ => rfl | 4, _ => rfl | 5, _ => rfl | 6, _ => rfl | 7, _ => rfl | 8, _ => rfl | 9, _ => rfl | 10, _ => rfl | 11, _ => rfl | k + 12, h => absurd h (by omega)) ⟨Nat.le_of_ble_eq_true rfl, Nat.le_of_ble_eq_true rfl⟩ dL_law_0 (fun q0 => ?_)
  refine k_dup C 3 dL_law_3 rfl ?_
  refine k_callP (st := [.ref q0]) CK EK_ok EK_vm 4 [] (tX6_init (l := l) (D := D)) gL_law_X6_init rfl (by decide +kernel) (by decide +kernel) (by decide +kernel) rfl (by decide +kernel) ⟨Nat.le_of_ble_eq_true rfl, Nat.le_of_ble_eq_true rfl⟩ ⟨Nat.le_of_ble_eq_true rfl, Nat.le_of_ble_eq_true rfl⟩ rfl (Nat.le_of_ble_eq_true rfl) dL_law_4 (fun a0 => ?_)
  refine k_astore_n C 7 [(1, .ref q0), (0, .ref b)] dL_law_7 (by decide) rfl ?_
  refine k_new (ci := 7) (Cn := RX7) (T := TX7) C 8 tyX7 [.null, .null, .int 0, .int 0, .null, .int 0, .int 0, .int 0, .int 0, .int 0, .null, .int 0, .int 0, .int 0, .int 0, .int 0, .int 0, .int 0, .int 0, .null, .null, .int 0, .int 0, .int 0, .int 0, .int 0, .int 0, .null, .null, .int 0, .null, .null, .null, .null, .null, .int 0] (fun w h => inlX7 w h) tyX7_ok (by decide +kernel) (by decide +kernel) (by decide +kernel) rfl (fun j hj => match j, hj with | 0, _ => rfl | 1, _ => rfl | 2, _ => rfl | 3, _ => rfl | 4, _ => rfl | 5, _ => rfl | 6, _ => rfl | 7, _ => rfl | 8, _ => rfl | 9, _ => rfl | 10, _ => rfl | 11, _ => rfl | 12, _ => rfl | 13, _ => rfl | 14, _ => rfl | 15, _ => rfl | 16, _ => rfl | 17, _ => rfl | 18, _ => rfl | 19, _ => rfl | 20, _ => rfl | 21, _ => rfl | 22, _ => rfl | 23, _ => rfl | 24, _ => rfl | 25, _ => rfl | 26, _ => rfl | 27, _ => rfl | 28, _ => rfl | 29, _ => rfl | 30, _ => rfl | 31, _ => rfl | 32, _ => rfl | 33, _ => rfl | 34, _ => rfl | 35, _ => rfl | k + 36, h => absurd h (by omega)) ⟨Nat.le_of_ble_eq_true rfl, Nat.le_of_ble_eq_true rfl⟩ dL_law_8 (fun q1 => ?_)
  refine k_dup C 11 dL_law_11 rfl ?_
  refine k_callP (st := [.ref q1]) CM E0_ok E0_vm 12 (wX (adX q0 a0) cI cZ u0X) (tX7_init (l := l) (D := D)) gL_law_X7_init rfl (by decide +kernel) (by decide +kernel) (by decide +kernel) rfl (by decide +kernel) ⟨Nat.le_of_ble_eq_true rfl, Nat.le_of_ble_eq_true rfl⟩ ⟨Nat.le_of_ble_eq_true rfl, Nat.le_of_ble_eq_true rfl⟩ rfl (Nat.le_of_ble_eq_true rfl) dL_law_12 (fun a1 => ?_)
  refine k_astore_n C 15 [(2, .ref q1), (1, .ref q0), (0, .ref b)] dL_law_15 (by decide) rfl ?_
  refine k_iconst C 16 0 dL_law_16 rfl ?_
  refine k_istore_n C 17 [(3, .int 0), (2, .ref q1), (1, .ref q0), (0, .ref b)] dL_law_17 (by decide) rfl ?_
  refine k_sub [(0, .ref b), (1, .ref (adX q0 a0 0)), (2, .ref (adM q1 a1 0)), (3, .int (nI 0))] [3, 2, 1, 0] rfl ?_
  exact law_loop hL hX hbl hbA C hr hlocks (L + 1) 0 u0X u0M (by omega) (by omega) RR_start
set_option maxHeartbeats 4000000 in
theorem lw_walk (l : Launch) (hflags : l.flags = flags0) (b : Addr) (xs : List Int32) : MetFree l x (headSpec (Jvm.Cond.code x code maxLocals ret :: tables_1) room_1) (lw_P b xs) (fun _ _ _ _ _ => True) lw_Q := by
  refine MetFree.of_bodyS (code := code) (maxLocals := maxLocals) (ret := ret) (by decide) ?_ ?_
  · intro args s m h hn
    obtain ⟨meth, c, h1, h2, h3, h4, h5, h6, -, -⟩ := Cond.code_spec hn (atoms_spec (ws := Jvm.Cond.code x code maxLocals ret :: tables_1) h _ List.mem_cons_self)
    exact ⟨meth, c, h1, h2, h3, h4, h5, h6⟩
  · intro p e s m args below meth c s₁ B hml0 hP _
    obtain ⟨rfl, hx, hbd, hgv⟩ := hP
    obtain ⟨scr, harrAt, hlist, hof, hsmall⟩ := hx
    obtain ⟨hcb, hkn, -, -⟩ := State.arrayAt?_spec harrAt
    have hown : s.vm.findClass R_law = some m.cls := findClass_of_methodNamed B.named
    have hts0 : ∀ c ∈ (Jvm.Cond.code x code maxLocals ret :: tables_1), c.before #[Value.ref b] s = true := atoms_spec (ws := Jvm.Cond.code x code maxLocals ret :: tables_1) B.pre
    have hts : ∀ w ∈ lw_tbl, w.before #[Value.ref b] s = true := k2_hts_sels lw_privs (fun w hw => hts0 w (List.mem_cons_of_mem _ hw)) lw_privs_ok
    have hml : c.maxLocals = 4 := B.maxLocals_eq (hts0 _ List.mem_cons_self)
    have X₀ : Stand p l e room_1 s m #[Value.ref b] below meth c s₁ [] 0 0 := Stand.of_body B
    have hh0 : s₁.heap = s.heap := by rw [B.state]; rfl
    have hsz : scr.slots.size = xs.length := by rw [← Array.length_toList, hlist, List.length_map]
    have hval : ∀ j : Nat, j < xs.length → scr.slots[j]? = some (.int (xs.getD j 0)) := fun j hj => by
      rw [← Array.getElem?_toList, hlist]
      simp [hj]
    have hbl : b < s.heap.size := (Array.getElem?_eq_some_iff.mp hcb).1
    have hX : va_X b xs.length (fun j => xs.getD j 0) s s.heap := ⟨scr, hcb, hof, hkn, hsz, hval⟩
    have K : W p l e room_1 s m #[Value.ref b] below meth c s₁.heap [] 0 0 (lw_Z below #[Value.ref b] s) (entryFrame m ([Value.ref b] : List Value).toArray 4) := by
      rw [hh0]
      exact whole_start l hflags hbd ⟨B.exec, B.bytes, B.returns, hml, hown, hts, hX, hbl, B.notSynchronized, hgv⟩
    obtain ⟨t, a1, o, b1, b2, b3⟩ := K s₁ rfl X₀
    exact ⟨t, o, a1, b1, b2, b3⟩
theorem lw_pre_spec {args : Array Value} {s : State} (h : (Jvm.Cond.and given_1 narrow_1).before args s = true) (hr : rest_1_c.before args s = true) : ∃ (b : Addr) (xs : List Int32), lw_P b xs args s := by
  have hs := flat_of_before _ h
  have hq := flat_of_before _ hr
  have hc : (Cond.count 1).before args s = true := hs _ (by decide +kernel)
  have harr : (Cond.arrayOf (.arg 0) .int).before args s = true := hs _ (by decide +kernel)
  have hle : (Cond.le (.length (.arg 0)) (.int 384)).before args s = true := hs _ (by decide +kernel)
  have hlen : (Cond.isInt (.length (.arg 0))).before args s = true := hq _ (by decide +kernel)
  have hall : (Cond.all (.arg 0) (.isInt (.elem (.arg 0) (.index 0)))).before args s = true := hq _ (by decide +kernel)
  obtain ⟨b, xs, hb, hx⟩ := State.ints_of_pre rfl harr hlen hall
  have hsm : xs.length < 2 ^ 31 := hx.choose_spec.2.2.2
  have hev : (Term.length (.arg 0)).eval args s none [] s = some (.int xs.length.toInt32) := hx.length_eval hb
  have hv := Cond.le_ints hev (show (Term.int 384).eval args s none [] s = some (.int 384) from rfl)
  have hd : xs.length.toInt32 ≤ 384 := by
    simpa [Cond.before, Cond.holds, hv] using hle
  have hN : xs.length ≤ 384 := (Int32.ofNat_le_ofNat hsm (by decide)).mp (show Int32.ofNat xs.length ≤ Int32.ofNat 384 from hd)
  exact ⟨b, xs, Cond.one_arg hc (show args[0]? = some (.ref b) from hb), hx, hN, h⟩
theorem lw_comes (l : Launch) (hflags : l.flags = flags0) : Comes l x (Jvm.Cond.code x code maxLocals ret :: tables_1) room_1 (fun tb e args s => Calls_1 tb e args s ∧ rest_1 tb e args s ∧ Pre_1 tb e args s)
    (fun _ _ args s o t => lw_Q args s o t) := by
  intro p e ha hc hk s m args below hf hfit hheap happ hpre
  obtain ⟨b, xs, hP⟩ := lw_pre_spec hpre.2.2 hpre.2.1
  obtain ⟨k, o, h1, h2, h3, hQ⟩ := lw_walk l hflags b xs p e ha hc hk s m args below hf ((Spec.applies_iff_loose hf).mp happ).1 hP trivial
  exact ⟨k, o, h1, h2, h3, hQ⟩
theorem lw_frame {s t : State} {o : Outcome} {args : Array Value} (h : Framed s o t [] 91 1902) :
    Framed s o t (fieldLocs frame_1_writes args s ++ arrayLocs frame_1_arrays args s ++ staticLocs frame_1_statics s) 91 1902 := h
theorem lw_limb (L : Cond) (hL : ∀ (args : Array Value) (s t : State), L.after args s (.returned (some (.int 1))) t = true) :
    ArmFor flags0 classFile x code maxLocals ret World_1 tables_1 room_1 Calls_1 rest_1 Pre_1
      (fun tb e a s o t => postC L tb e a s o t ∧ Framed s o t (fieldLocs frame_1_writes a s ++ arrayLocs frame_1_arrays a s ++ staticLocs frame_1_statics s) 91 1902) := by
  intro l hflags _ _ p e ha hc hk s m args below hf hfit hheap happ hpre
  obtain ⟨k, o, h1, h2, h3, rfl, hF⟩ := lw_comes l hflags p e ha hc hk s m args below hf hfit hheap happ hpre
  exact ⟨k, _, h1, h2, h3, hL args s _, lw_frame hF⟩
theorem i_vc : Claimed_1_1 ∧ Claimed_1_2 := ⟨lw_limb limb_1_1 (fun args s t => by simp [limb_1_1, Cond.after, Cond.holds, Cond.value]), lw_limb limb_1_2 (fun args s t => Cond.after_iff.mpr (by
  first | (rw [show limb_1_2 = Cond.eq .result (.int 1) from rfl, Cond.eq_ints (x := 1) (y := 1) rfl rfl]; simp; done) | (simp [limb_1_2, Cond.value, Term.eval]; done)))⟩

