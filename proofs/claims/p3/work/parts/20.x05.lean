def jX6_luck_107 (F : Nat) (p5 : Int32) (a9 : Int64) (u10 : St) : Option (Int64 × St) :=
  bd (pX6_tenths F u10) (fun (r12 : Int64) (u11 : St) => bd (pX6_inLowestTerms F a9 r12 p5 u11) (fun (r14 : Int64) (u13 : St) => some (r14, u13)))
def bX6_luck_53 (F : Nat) (p1 : Int32) (p2 : Int32) (p3 : Int32) (p4 : Int32) (J107 : Int64 → St → Option (Int64 × St)) (self18 : Int64 → Int32 → St → Option (Int64 × St)) (x15 : Int64) (x16 : Int32) (u17 : St) : Option (Int64 × St) :=
  if (1 <<< ((u17.1 2) &&& 31)) ≤ x16 then (J107 x15 u17) else bd (pX6_prepare F p2 p4 x16 u17) (fun (_ : Unit) (u19 : St) => bd (pX5_verdictHeld F u19) (fun (r21 : Int32) (u20 : St) => jn (fun (a22 : Int64) (u23 : St) => (self18 a22 (x16 + 1) u23)) (fun (J101 : Int64 → St → Option (Int64 × St)) => if r21 = (p3 + 1) then bd (pX6_weightOf F p1 x16 u20) (fun (r25 : Int64) (u24 : St) => vl (x15 + r25) (fun v26 => (J101 v26 u24))) else (J101 x15 u20))))
def pX6_luck (F : Nat) (p1 : Int32) (p2 : Int32) (p3 : Int32) (p4 : Int32) (p5 : Int32) (u : St) : Option (Int64 × St) :=
  bd (pX6_isIn F (Int32.toInt64 p1) 0 10 u) (fun (r2 : Int32) (u1 : St) => if r2 = 0 then some ((-1), u1) else bd (pX6_isFlame F p2 p3 u1) (fun (r4 : Int32) (u3 : St) => if r4 = 0 then some ((-1), u3) else bd (pX0_hasJudge F 0 p4 u3) (fun (r6 : Int32) (u5 : St) => if r6 = 0 then some ((-1), u5) else bd (pX6_isIn F (Int32.toInt64 p5) 0 1 u5) (fun (r8 : Int32) (u7 : St) => if r8 = 0 then some ((-1), u7) else jn (jX6_luck_107 F p5) (fun (J107 : Int64 → St → Option (Int64 × St)) => (lq2 (bX6_luck_53 F p1 p2 p3 p4 J107) F 0 0 u7))))))
set_option maxRecDepth 100000 in
set_option maxHeartbeats 4000000 in
theorem tX6_luck {l : Launch} {D : va_G} {cI cZ : ClassId} {ad : Nat → Nat} {tBURNS tFLAME_BOUNDS : Nat} {tS : Option Nat} {adK adV : Nat → Nat} (F : Nat) (p1 : Int32) (p2 : Int32) (p3 : Int32) (p4 : Int32) (p5 : Int32) (u : St) : CtL l D [(cI, .int), (cZ, .boolean)] (wX ad cI cZ) (EX tBURNS tFLAME_BOUNDS tS adK adV) yX6_luck wsX6_luck ({ frames := 4, cells := 0, slots := 0, locals := 85 } : Room) [.ref (ad 0), .int p1, .int p2, .int p3, .int p4, .int p5] u (pX6_luck F p1 p2 p3 p4 p5 u) := by
  refine ctL_of (own := RX6) (cc := cX6_luck) (n := 9) (ret := (some .long)) (by decide) rfl rfl (Nat.le_of_ble_eq_true rfl) (lv := [(0, .ref (ad 0)), (1, .int p1), (2, .int p2), (3, .int p3), (4, .int p4), (5, .int p5)]) rfl (fun C => ?_)
  have iX0 : ∀ w ∈ wsX00, w ∈ wsX6_luck := fun w h => List.mem_cons_of_mem _ (List.mem_append_right _ (inlX0 w h))
  have iX6 : ∀ w ∈ wsX60, w ∈ wsX6_luck := fun w h => List.mem_cons_of_mem _ (List.mem_append_right _ (inlX6 w h))
  rw [pX6_luck]
  refine g_iload_n C 0 1 dX6_luck_0 rfl ?_
  refine g_i2l C 1 dX6_luck_1 ?_
  refine g_iconst C 2 0 dX6_luck_2 rfl ?_
  refine g_bipush C 3 10 dX6_luck_3 rfl ?_
  refine g_callSi (st := []) (As := [.long (Int32.toInt64 p1), .int 0, .int 10]) C EX_ok EX_vm 5 3 (tX6_isIn F (Int32.toInt64 p1) 0 10 u) rfl gX6_luck_X6_isIn rfl rfl rfl (by decide +kernel) ⟨Nat.le_of_ble_eq_true rfl, Nat.le_of_ble_eq_true rfl⟩ rfl (Nat.le_of_ble_eq_true rfl) dX6_luck_5 (fun r2 u1 => ?_)
  refine g_if_eq C 8 43 dX6_luck_8 (by decide) ?_ ?_
  · skip
    refine g_ldc2 C 43 (-1) (by decide +kernel) dX6_luck_43 ?_
    exact g_lret C 46 dX6_luck_46
  · skip
    refine g_aload_n C 11 0 dX6_luck_11 rfl ?_
    refine g_iload_n C 12 2 dX6_luck_12 rfl ?_
    refine g_iload_n C 13 3 dX6_luck_13 rfl ?_
    refine g_callVi (st := []) (As := [.int p2, .int p3]) C EX_ok EX_vm 14 0 2 (tX6_isFlame F p2 p3 u1) rfl gX6_luck_X6_isFlame rfl rfl rfl (by decide +kernel) ⟨Nat.le_of_ble_eq_true rfl, Nat.le_of_ble_eq_true rfl⟩ rfl rfl rfl (Nat.le_of_ble_eq_true rfl) dX6_luck_14 (fun r4 u3 => ?_)
    refine g_if_eq C 17 43 dX6_luck_17 (by decide) ?_ ?_
    · skip
      refine g_ldc2 C 43 (-1) (by decide +kernel) dX6_luck_43 ?_
      exact g_lret C 46 dX6_luck_46
    · skip
      refine g_aload_n C 20 0 dX6_luck_20 rfl ?_
      refine gfX_X6_court C 21 iX6 (List.mem_cons_of_mem _ (List.mem_append_right _ wgL_1_15.1)) dX6_luck_21 ?_
      refine g_iload C 24 4 dX6_luck_24 rfl ?_
      refine g_callVi (st := []) (As := [.int p4]) C EX_ok EX_vm 26 1 1 (tX0_hasJudge F 0 (by decide) p4 u3) rfl gX6_luck_X0_hasJudge rfl rfl rfl (by decide +kernel) ⟨Nat.le_of_ble_eq_true rfl, Nat.le_of_ble_eq_true rfl⟩ (wX_X0 ad cI cZ _ 0 (by decide)) rfl rfl (Nat.le_of_ble_eq_true rfl) dX6_luck_26 (fun r6 u5 => ?_)
      refine g_if_eq C 29 43 dX6_luck_29 (by decide) ?_ ?_
      · skip
        refine g_ldc2 C 43 (-1) (by decide +kernel) dX6_luck_43 ?_
        exact g_lret C 46 dX6_luck_46
      · skip
        refine g_iload C 32 5 dX6_luck_32 rfl ?_
        refine g_i2l C 34 dX6_luck_34 ?_
        refine g_iconst C 35 0 dX6_luck_35 rfl ?_
        refine g_iconst C 36 1 dX6_luck_36 rfl ?_
        refine g_callSi (st := []) (As := [.long (Int32.toInt64 p5), .int 0, .int 1]) C EX_ok EX_vm 37 3 (tX6_isIn F (Int32.toInt64 p5) 0 1 u5) rfl gX6_luck_X6_isIn rfl rfl rfl (by decide +kernel) ⟨Nat.le_of_ble_eq_true rfl, Nat.le_of_ble_eq_true rfl⟩ rfl (Nat.le_of_ble_eq_true rfl) dX6_luck_37 (fun r8 u7 => ?_)
        refine g_if_ne C 40 47 dX6_luck_40 (by decide) ?_ ?_
        · skip
          refine g_lconst C 47 0 dX6_luck_47 rfl ?_
          refine g_lstore C 48 [(6, .long 0), (0, .ref (ad 0)), (1, .int p1), (2, .int p2), (3, .int p3), (4, .int p4), (5, .int p5)] dX6_luck_48 (by decide) rfl ?_
          refine g_iconst C 50 0 dX6_luck_50 rfl ?_
          refine g_istore C 51 [(8, .int 0), (6, .long 0), (0, .ref (ad 0)), (1, .int p1), (2, .int p2), (3, .int p3), (4, .int p4), (5, .int p5)] dX6_luck_51 (by decide) rfl ?_
          refine g_jn1 107 (fun (a9 : Int64) => [(0, .ref (ad 0)), (5, .int p5), (6, .long a9)]) (fun (a9 : Int64) => []) (fun a9 u10 => ?_) (fun J107 hJ107 => ?_)
          · skip
            rw [jX6_luck_107]
            refine g_lload C 107 2 dX6_luck_107 rfl ?_
            refine g_aload_n C 109 0 dX6_luck_109 rfl ?_
            refine g_callVl (st := [.long a9]) (As := []) C EX_ok EX_vm 110 0 0 (tX6_tenths F u10) rfl gX6_luck_X6_tenths rfl rfl rfl (by decide +kernel) ⟨Nat.le_of_ble_eq_true rfl, Nat.le_of_ble_eq_true rfl⟩ rfl rfl rfl (Nat.le_of_ble_eq_true rfl) dX6_luck_110 (fun r12 u11 => ?_)
            refine g_iload C 113 1 dX6_luck_113 rfl ?_
            refine g_callSl (st := []) (As := [.long a9, .long r12, .int p5]) C EX_ok EX_vm 115 3 (tX6_inLowestTerms F a9 r12 p5 u11) rfl gX6_luck_X6_inLowestTerms rfl rfl rfl (by decide +kernel) ⟨Nat.le_of_ble_eq_true rfl, Nat.le_of_ble_eq_true rfl⟩ rfl (Nat.le_of_ble_eq_true rfl) dX6_luck_115 (fun r14 u13 => ?_)
            exact g_lret C 118 dX6_luck_118
          · skip
            refine g_sub _ [2, 3, 4, 5, 6, 7, 1, 0] rfl ?_
            refine g_lq2 (fun (x15 : Int64) (x16 : Int32) => [(0, .ref (ad 0)), (1, .int p1), (2, .int p2), (3, .int p3), (4, .int p4), (5, .int p5), (6, .long x15), (8, .int x16)]) (fun self18 hself18 x15 x16 u17 => ?_) F 0 0 u7
            rw [bX6_luck_53]
            refine g_iload C 53 7 dX6_luck_53 rfl ?_
            refine g_iconst C 55 1 dX6_luck_55 rfl ?_
            refine g_aload_n C 56 0 dX6_luck_56 rfl ?_
            refine gfX_X6_court C 57 iX6 (List.mem_cons_of_mem _ (List.mem_append_right _ wgL_1_15.1)) dX6_luck_57 ?_
            refine gfX_X0_draughts 0 (by decide) C 60 iX0 (List.mem_cons_of_mem _ (List.mem_append_right _ wgL_18_7.1)) dX6_luck_60 ?_
            refine g_ishl C 63 dX6_luck_63 ?_
            refine g_icmp_ge C 64 107 dX6_luck_64 (by decide) ?_ ?_
            · skip
              exact g_sub _ [0, 5, 6] rfl (hJ107 x15 u17)
            · skip
              refine g_aload_n C 67 0 dX6_luck_67 rfl ?_
              refine g_iload_n C 68 2 dX6_luck_68 rfl ?_
              refine g_iload C 69 4 dX6_luck_69 rfl ?_
              refine g_iload C 71 7 dX6_luck_71 rfl ?_
              refine g_callVv (st := []) (As := [.int p2, .int p4, .int x16]) C EX_ok EX_vm 73 0 3 (tX6_prepare F p2 p4 x16 u17) rfl gX6_luck_X6_prepare rfl rfl rfl (by decide +kernel) ⟨Nat.le_of_ble_eq_true rfl, Nat.le_of_ble_eq_true rfl⟩ rfl rfl rfl (Nat.le_of_ble_eq_true rfl) dX6_luck_73 (fun u19 => ?_)
              refine g_aload_n C 76 0 dX6_luck_76 rfl ?_
              refine gfX_X6_trial C 77 iX6 (List.mem_cons_of_mem _ (List.mem_append_right _ wgL_2_3.1)) dX6_luck_77 ?_
              refine g_callVi (st := []) (As := []) C EX_ok EX_vm 80 6 0 (tX5_verdictHeld F u19) rfl gX6_luck_X5_verdictHeld rfl rfl rfl (by decide +kernel) ⟨Nat.le_of_ble_eq_true rfl, Nat.le_of_ble_eq_true rfl⟩ rfl rfl rfl (Nat.le_of_ble_eq_true rfl) dX6_luck_80 (fun r21 u20 => ?_)
              refine g_iload_n C 83 3 dX6_luck_83 rfl ?_
              refine g_iconst C 84 1 dX6_luck_84 rfl ?_
              refine g_iadd C 85 dX6_luck_85 ?_
              refine g_jn1 101 (fun (a22 : Int64) => [(0, .ref (ad 0)), (1, .int p1), (2, .int p2), (3, .int p3), (4, .int p4), (5, .int p5), (6, .long a22), (8, .int x16)]) (fun (a22 : Int64) => []) (fun a22 u23 => ?_) (fun J101 hJ101 => ?_)
              · skip
                refine g_iinc C 101 7 [(8, .int (x16 + 1)), (0, .ref (ad 0)), (1, .int p1), (2, .int p2), (3, .int p3), (4, .int p4), (5, .int p5), (6, .long a22)] dX6_luck_101 rfl rfl (by decide) rfl ?_
                refine g_goto C 104 53 dX6_luck_104 (by decide) ?_
                exact g_sub _ [1, 2, 3, 4, 5, 6, 7, 0] rfl (hself18 a22 (x16 + 1) u23)
              · skip
                refine g_icmp_ne C 86 101 dX6_luck_86 (by decide) ?_ ?_
                · skip
                  exact g_sub _ [0, 1, 2, 3, 4, 5, 6, 7] rfl (hJ101 x15 u20)
                · skip
                  refine g_lload C 89 6 dX6_luck_89 rfl ?_
                  refine g_aload_n C 91 0 dX6_luck_91 rfl ?_
                  refine g_iload_n C 92 1 dX6_luck_92 rfl ?_
                  refine g_iload C 93 7 dX6_luck_93 rfl ?_
                  refine g_callVl (st := [.long x15]) (As := [.int p1, .int x16]) C EX_ok EX_vm 95 0 2 (tX6_weightOf F p1 x16 u20) rfl gX6_luck_X6_weightOf rfl rfl rfl (by decide +kernel) ⟨Nat.le_of_ble_eq_true rfl, Nat.le_of_ble_eq_true rfl⟩ rfl rfl rfl (Nat.le_of_ble_eq_true rfl) dX6_luck_95 (fun r25 u24 => ?_)
                  refine g_ladd C 98 dX6_luck_98 ?_
                  refine g_lstoreV C 99 (fun v26 => [(6, .long v26), (0, .ref (ad 0)), (1, .int p1), (2, .int p2), (3, .int p3), (4, .int p4), (5, .int p5), (8, .int x16)]) dX6_luck_99 (by decide) (fun _ => rfl) (fun v26 => ?_)
                  exact g_sub _ [1, 2, 3, 4, 5, 6, 0, 7] rfl (hJ101 v26 u24)
        · skip
          refine g_ldc2 C 43 (-1) (by decide +kernel) dX6_luck_43 ?_
          exact g_lret C 46 dX6_luck_46
def jX6_mean_79 (F : Nat) (p3 : Int32) (a7 : Int64) (u8 : St) : Option (Int64 × St) :=
  bd (pX6_tenths F u8) (fun (r10 : Int64) (u9 : St) => bd (pX6_inLowestTerms F a7 r10 p3 u9) (fun (r12 : Int64) (u11 : St) => some (r12, u11)))
def bX6_mean_38 (F : Nat) (p1 : Int32) (p2 : Int32) (J79 : Int64 → St → Option (Int64 × St)) (self16 : Int64 → Int32 → St → Option (Int64 × St)) (x13 : Int64) (x14 : Int32) (u15 : St) : Option (Int64 × St) :=
  if (1 <<< ((u15.1 2) &&& 31)) ≤ x14 then (J79 x13 u15) else bd (pX6_weightOf F p1 x14 u15) (fun (r18 : Int64) (u17 : St) => bd (pX6_wonByDocket F p2 x14 u17) (fun (r20 : Int32) (u19 : St) => vl (x13 + (r18 * (Int32.toInt64 r20))) (fun v21 => (self16 v21 (x14 + 1) u19))))
def pX6_mean (F : Nat) (p1 : Int32) (p2 : Int32) (p3 : Int32) (u : St) : Option (Int64 × St) :=
  bd (pX6_isIn F (Int32.toInt64 p1) 0 10 u) (fun (r2 : Int32) (u1 : St) => if r2 = 0 then some ((-1), u1) else bd (pX6_isSide F p2 u1) (fun (r4 : Int32) (u3 : St) => if r4 = 0 then some ((-1), u3) else bd (pX6_isIn F (Int32.toInt64 p3) 0 1 u3) (fun (r6 : Int32) (u5 : St) => if r6 = 0 then some ((-1), u5) else jn (jX6_mean_79 F p3) (fun (J79 : Int64 → St → Option (Int64 × St)) => (lq2 (bX6_mean_38 F p1 p2 J79) F 0 0 u5)))))
set_option maxRecDepth 100000 in
set_option maxHeartbeats 4000000 in
theorem tX6_mean {l : Launch} {D : va_G} {cI cZ : ClassId} {ad : Nat → Nat} {tBURNS tFLAME_BOUNDS : Nat} {tS : Option Nat} {adK adV : Nat → Nat} (F : Nat) (p1 : Int32) (p2 : Int32) (p3 : Int32) (u : St) : CtL l D [(cI, .int), (cZ, .boolean)] (wX ad cI cZ) (EX tBURNS tFLAME_BOUNDS tS adK adV) yX6_mean wsX6_mean ({ frames := 5, cells := 0, slots := 0, locals := 109 } : Room) [.ref (ad 0), .int p1, .int p2, .int p3] u (pX6_mean F p1 p2 p3 u) := by
  refine ctL_of (own := RX6) (cc := cX6_mean) (n := 7) (ret := (some .long)) (by decide) rfl rfl (Nat.le_of_ble_eq_true rfl) (lv := [(0, .ref (ad 0)), (1, .int p1), (2, .int p2), (3, .int p3)]) rfl (fun C => ?_)
  have iX0 : ∀ w ∈ wsX00, w ∈ wsX6_mean := fun w h => List.mem_cons_of_mem _ (List.mem_append_right _ (inlX0 w h))
  have iX6 : ∀ w ∈ wsX60, w ∈ wsX6_mean := fun w h => List.mem_cons_of_mem _ (List.mem_append_right _ (inlX6 w h))
  rw [pX6_mean]
  refine g_iload_n C 0 1 dX6_mean_0 rfl ?_
  refine g_i2l C 1 dX6_mean_1 ?_
  refine g_iconst C 2 0 dX6_mean_2 rfl ?_
  refine g_bipush C 3 10 dX6_mean_3 rfl ?_
  refine g_callSi (st := []) (As := [.long (Int32.toInt64 p1), .int 0, .int 10]) C EX_ok EX_vm 5 3 (tX6_isIn F (Int32.toInt64 p1) 0 10 u) rfl gX6_mean_X6_isIn rfl rfl rfl (by decide +kernel) ⟨Nat.le_of_ble_eq_true rfl, Nat.le_of_ble_eq_true rfl⟩ rfl (Nat.le_of_ble_eq_true rfl) dX6_mean_5 (fun r2 u1 => ?_)
  refine g_if_eq C 8 28 dX6_mean_8 (by decide) ?_ ?_
  · skip
    refine g_ldc2 C 28 (-1) (by decide +kernel) dX6_mean_28 ?_
    exact g_lret C 31 dX6_mean_31
  · skip
    refine g_iload_n C 11 2 dX6_mean_11 rfl ?_
    refine g_callSi (st := []) (As := [.int p2]) C EX_ok EX_vm 12 1 (tX6_isSide F p2 u1) rfl gX6_mean_X6_isSide rfl rfl rfl (by decide +kernel) ⟨Nat.le_of_ble_eq_true rfl, Nat.le_of_ble_eq_true rfl⟩ rfl (Nat.le_of_ble_eq_true rfl) dX6_mean_12 (fun r4 u3 => ?_)
    refine g_if_eq C 15 28 dX6_mean_15 (by decide) ?_ ?_
    · skip
      refine g_ldc2 C 28 (-1) (by decide +kernel) dX6_mean_28 ?_
      exact g_lret C 31 dX6_mean_31
    · skip
      refine g_iload_n C 18 3 dX6_mean_18 rfl ?_
      refine g_i2l C 19 dX6_mean_19 ?_
      refine g_iconst C 20 0 dX6_mean_20 rfl ?_
      refine g_iconst C 21 1 dX6_mean_21 rfl ?_
      refine g_callSi (st := []) (As := [.long (Int32.toInt64 p3), .int 0, .int 1]) C EX_ok EX_vm 22 3 (tX6_isIn F (Int32.toInt64 p3) 0 1 u3) rfl gX6_mean_X6_isIn rfl rfl rfl (by decide +kernel) ⟨Nat.le_of_ble_eq_true rfl, Nat.le_of_ble_eq_true rfl⟩ rfl (Nat.le_of_ble_eq_true rfl) dX6_mean_22 (fun r6 u5 => ?_)
      refine g_if_ne C 25 32 dX6_mean_25 (by decide) ?_ ?_
      · skip
        refine g_lconst C 32 0 dX6_mean_32 rfl ?_
        refine g_lstore C 33 [(4, .long 0), (0, .ref (ad 0)), (1, .int p1), (2, .int p2), (3, .int p3)] dX6_mean_33 (by decide) rfl ?_
        refine g_iconst C 35 0 dX6_mean_35 rfl ?_
        refine g_istore C 36 [(6, .int 0), (4, .long 0), (0, .ref (ad 0)), (1, .int p1), (2, .int p2), (3, .int p3)] dX6_mean_36 (by decide) rfl ?_
        refine g_jn1 79 (fun (a7 : Int64) => [(0, .ref (ad 0)), (3, .int p3), (4, .long a7)]) (fun (a7 : Int64) => []) (fun a7 u8 => ?_) (fun J79 hJ79 => ?_)
        · skip
          rw [jX6_mean_79]
          refine g_lload C 79 2 dX6_mean_79 rfl ?_
          refine g_aload_n C 81 0 dX6_mean_81 rfl ?_
          refine g_callVl (st := [.long a7]) (As := []) C EX_ok EX_vm 82 0 0 (tX6_tenths F u8) rfl gX6_mean_X6_tenths rfl rfl rfl (by decide +kernel) ⟨Nat.le_of_ble_eq_true rfl, Nat.le_of_ble_eq_true rfl⟩ rfl rfl rfl (Nat.le_of_ble_eq_true rfl) dX6_mean_82 (fun r10 u9 => ?_)
          refine g_iload_n C 85 1 dX6_mean_85 rfl ?_
          refine g_callSl (st := []) (As := [.long a7, .long r10, .int p3]) C EX_ok EX_vm 86 3 (tX6_inLowestTerms F a7 r10 p3 u9) rfl gX6_mean_X6_inLowestTerms rfl rfl rfl (by decide +kernel) ⟨Nat.le_of_ble_eq_true rfl, Nat.le_of_ble_eq_true rfl⟩ rfl (Nat.le_of_ble_eq_true rfl) dX6_mean_86 (fun r12 u11 => ?_)
          exact g_lret C 89 dX6_mean_89
        · skip
          refine g_sub _ [2, 3, 4, 5, 1, 0] rfl ?_
          refine g_lq2 (fun (x13 : Int64) (x14 : Int32) => [(0, .ref (ad 0)), (1, .int p1), (2, .int p2), (3, .int p3), (4, .long x13), (6, .int x14)]) (fun self16 hself16 x13 x14 u15 => ?_) F 0 0 u5
          rw [bX6_mean_38]
          refine g_iload C 38 5 dX6_mean_38 rfl ?_
          refine g_iconst C 40 1 dX6_mean_40 rfl ?_
          refine g_aload_n C 41 0 dX6_mean_41 rfl ?_
          refine gfX_X6_court C 42 iX6 (List.mem_cons_of_mem _ (List.mem_append_right _ wgL_1_15.1)) dX6_mean_42 ?_
          refine gfX_X0_draughts 0 (by decide) C 45 iX0 (List.mem_cons_of_mem _ (List.mem_append_right _ wgL_18_7.1)) dX6_mean_45 ?_
          refine g_ishl C 48 dX6_mean_48 ?_
          refine g_icmp_ge C 49 79 dX6_mean_49 (by decide) ?_ ?_
          · skip
            exact g_sub _ [0, 3, 4] rfl (hJ79 x13 u15)
          · skip
            refine g_lload C 52 4 dX6_mean_52 rfl ?_
            refine g_aload_n C 54 0 dX6_mean_54 rfl ?_
            refine g_iload_n C 55 1 dX6_mean_55 rfl ?_
            refine g_iload C 56 5 dX6_mean_56 rfl ?_
            refine g_callVl (st := [.long x13]) (As := [.int p1, .int x14]) C EX_ok EX_vm 58 0 2 (tX6_weightOf F p1 x14 u15) rfl gX6_mean_X6_weightOf rfl rfl rfl (by decide +kernel) ⟨Nat.le_of_ble_eq_true rfl, Nat.le_of_ble_eq_true rfl⟩ rfl rfl rfl (Nat.le_of_ble_eq_true rfl) dX6_mean_58 (fun r18 u17 => ?_)
            refine g_aload_n C 61 0 dX6_mean_61 rfl ?_
            refine g_iload_n C 62 2 dX6_mean_62 rfl ?_
            refine g_iload C 63 5 dX6_mean_63 rfl ?_
            refine g_callVi (st := [.long r18, .long x13]) (As := [.int p2, .int x14]) C EX_ok EX_vm 65 0 2 (tX6_wonByDocket F p2 x14 u17) rfl gX6_mean_X6_wonByDocket rfl rfl rfl (by decide +kernel) ⟨Nat.le_of_ble_eq_true rfl, Nat.le_of_ble_eq_true rfl⟩ rfl rfl rfl (Nat.le_of_ble_eq_true rfl) dX6_mean_65 (fun r20 u19 => ?_)
            refine g_i2l C 68 dX6_mean_68 ?_
            refine g_lmul C 69 dX6_mean_69 ?_
            refine g_ladd C 70 dX6_mean_70 ?_
            refine g_lstoreV C 71 (fun v21 => [(4, .long v21), (0, .ref (ad 0)), (1, .int p1), (2, .int p2), (3, .int p3), (6, .int x14)]) dX6_mean_71 (by decide) (fun _ => rfl) (fun v21 => ?_)
            refine g_iinc C 73 5 [(6, .int (x14 + 1)), (4, .long v21), (0, .ref (ad 0)), (1, .int p1), (2, .int p2), (3, .int p3)] dX6_mean_73 rfl rfl (by decide) rfl ?_
            refine g_goto C 76 38 dX6_mean_76 (by decide) ?_
            exact g_sub _ [2, 3, 4, 5, 1, 0] rfl (hself16 v21 (x14 + 1) u19)
      · skip
        refine g_ldc2 C 28 (-1) (by decide +kernel) dX6_mean_28 ?_
        exact g_lret C 31 dX6_mean_31
def pX1_add (F : Nat) (p1 : Int32) (p2 : Int32) (p3 : Int32) (u : St) : Option (Int32 × St) :=
  if (u.1 29) < 6 then gd (inb (u.1 29) 6) (vl (sta u 60 (u.1 29) p1) (fun (u1 : St) => gd (inb (u1.1 29) 6) (vl (sta u1 61 (u1.1 29) p2) (fun (u2 : St) => gd (inb (u2.1 29) 6) (vl (sta u2 62 (u2.1 29) p3) (fun (u3 : St) => vl (stf u3 29 ((u3.1 29) + 1)) (fun (u4 : St) => some (1, u4)))))))) else some (0, u)
set_option maxRecDepth 100000 in
set_option maxHeartbeats 4000000 in
theorem tX1_add {l : Launch} {D : va_G} {cI cZ : ClassId} {ad : Nat → Nat} {tBURNS tFLAME_BOUNDS : Nat} {tS : Option Nat} {adK adV : Nat → Nat} (F : Nat) (p1 : Int32) (p2 : Int32) (p3 : Int32) (u : St) : CtI l D [(cI, .int), (cZ, .boolean)] (wX ad cI cZ) (EX tBURNS tFLAME_BOUNDS tS adK adV) yX1_add wsX1_add ({ frames := 0, cells := 0, slots := 0, locals := 0 } : Room) [.ref (ad 8), .int p1, .int p2, .int p3] u (pX1_add F p1 p2 p3 u) := by
  refine ctI_of (own := RX1) (cc := cX1_add) (n := 4) (ret := (some .boolean)) (by decide) rfl rfl (Nat.le_of_ble_eq_true rfl) (lv := [(0, .ref (ad 8)), (1, .int p1), (2, .int p2), (3, .int p3)]) rfl (fun C => ?_)
  have iX1 : ∀ w ∈ wsX10, w ∈ wsX1_add := fun w h => List.mem_cons_of_mem _ (List.mem_append_right _ (inlX1 w h))
  rw [pX1_add]
  refine g_aload_n C 0 0 dX1_add_0 rfl ?_
  refine gfX_X1_size C 1 iX1 (List.mem_cons_of_mem _ (List.mem_append_right _ wgL_5_3.1)) dX1_add_1 ?_
  refine g_bipush C 4 6 dX1_add_4 rfl ?_
  refine g_icmp_lt C 6 11 dX1_add_6 (by decide) ?_ ?_
  · skip
    refine g_aload_n C 11 0 dX1_add_11 rfl ?_
    refine gfX_X1_ofCase C 12 iX1 (List.mem_cons_of_mem _ (List.mem_append_right _ wgL_5_0.1)) dX1_add_12 ?_
    refine g_aload_n C 15 0 dX1_add_15 rfl ?_
    refine gfX_X1_size C 16 iX1 (List.mem_cons_of_mem _ (List.mem_append_right _ wgL_5_3.1)) dX1_add_16 ?_
    refine g_iload_n C 19 1 dX1_add_19 rfl ?_
    refine g_iast C 20 (10 + 60) 0 60 (wX_arr 60 (by decide)) (wX_aset 60 (by decide)) rfl dX1_add_20 (fun u1 => ?_)
    refine g_aload_n C 21 0 dX1_add_21 rfl ?_
    refine gfX_X1_ofJudge C 22 iX1 (List.mem_cons_of_mem _ (List.mem_append_right _ wgL_5_1.1)) dX1_add_22 ?_
    refine g_aload_n C 25 0 dX1_add_25 rfl ?_
    refine gfX_X1_size C 26 iX1 (List.mem_cons_of_mem _ (List.mem_append_right _ wgL_5_3.1)) dX1_add_26 ?_
    refine g_iload_n C 29 2 dX1_add_29 rfl ?_
    refine g_iast C 30 (10 + 61) 0 61 (wX_arr 61 (by decide)) (wX_aset 61 (by decide)) rfl dX1_add_30 (fun u2 => ?_)
    refine g_aload_n C 31 0 dX1_add_31 rfl ?_
    refine gfX_X1_verdict C 32 iX1 (List.mem_cons_of_mem _ (List.mem_append_right _ wgL_5_2.1)) dX1_add_32 ?_
    refine g_aload_n C 35 0 dX1_add_35 rfl ?_
    refine gfX_X1_size C 36 iX1 (List.mem_cons_of_mem _ (List.mem_append_right _ wgL_5_3.1)) dX1_add_36 ?_
    refine g_iload_n C 39 3 dX1_add_39 rfl ?_
    refine g_iast C 40 (10 + 62) 0 62 (wX_arr 62 (by decide)) (wX_aset 62 (by decide)) rfl dX1_add_40 (fun u3 => ?_)
    refine g_aload_n C 41 0 dX1_add_41 rfl ?_
    refine g_dup C 42 dX1_add_42 rfl ?_
    refine gfX_X1_size C 43 iX1 (List.mem_cons_of_mem _ (List.mem_append_right _ wgL_5_3.1)) dX1_add_43 ?_
    refine g_iconst C 46 1 dX1_add_46 rfl ?_
    refine g_iadd C 47 dX1_add_47 ?_
    refine pfX_X1_size C 48 iX1 (List.mem_cons_of_mem _ (List.mem_append_right _ wgL_5_3.1)) dX1_add_48 (fun u4 => ?_)
    refine g_iconst C 51 1 dX1_add_51 rfl ?_
    exact g_nret C 52 rfl dX1_add_52
  · skip
    refine g_iconst C 9 0 dX1_add_9 rfl ?_
    exact g_nret C 10 rfl dX1_add_10
def pX6_see (F : Nat) (p1 : Int32) (p2 : Int32) (p3 : Int32) (u : St) : Option (Int32 × St) :=
  bd (pX0_hasCase F 0 (Int32.toInt64 p1) u) (fun (r2 : Int32) (u1 : St) => if r2 = 0 then some ((-1), u1) else bd (pX0_hasJudge F 0 p2 u1) (fun (r4 : Int32) (u3 : St) => if r4 = 0 then some ((-1), u3) else bd (pX6_isIn F (Int32.toInt64 p3) 1 3 u3) (fun (r6 : Int32) (u5 : St) => if r6 = 0 then some ((-1), u5) else bd (pX1_add F p1 p2 p3 u5) (fun (r8 : Int32) (u7 : St) => if r8 = 0 then some ((-3), u7) else some ((u7.1 29), u7)))))
set_option maxRecDepth 100000 in
set_option maxHeartbeats 4000000 in
theorem tX6_see {l : Launch} {D : va_G} {cI cZ : ClassId} {ad : Nat → Nat} {tBURNS tFLAME_BOUNDS : Nat} {tS : Option Nat} {adK adV : Nat → Nat} (F : Nat) (p1 : Int32) (p2 : Int32) (p3 : Int32) (u : St) : CtI l D [(cI, .int), (cZ, .boolean)] (wX ad cI cZ) (EX tBURNS tFLAME_BOUNDS tS adK adV) yX6_see wsX6_see ({ frames := 2, cells := 0, slots := 0, locals := 45 } : Room) [.ref (ad 0), .int p1, .int p2, .int p3] u (pX6_see F p1 p2 p3 u) := by
  refine ctI_of (own := RX6) (cc := cX6_see) (n := 4) (ret := (some .int)) (by decide) rfl rfl (Nat.le_of_ble_eq_true rfl) (lv := [(0, .ref (ad 0)), (1, .int p1), (2, .int p2), (3, .int p3)]) rfl (fun C => ?_)
  have iX1 : ∀ w ∈ wsX10, w ∈ wsX6_see := fun w h => List.mem_cons_of_mem _ (List.mem_append_right _ (inlX1 w h))
  have iX6 : ∀ w ∈ wsX60, w ∈ wsX6_see := fun w h => List.mem_cons_of_mem _ (List.mem_append_right _ (inlX6 w h))
  rw [pX6_see]
  refine g_aload_n C 0 0 dX6_see_0 rfl ?_
  refine gfX_X6_court C 1 iX6 (List.mem_cons_of_mem _ (List.mem_append_right _ wgL_1_15.1)) dX6_see_1 ?_
  refine g_iload_n C 4 1 dX6_see_4 rfl ?_
  refine g_i2l C 5 dX6_see_5 ?_
  refine g_callVi (st := []) (As := [.long (Int32.toInt64 p1)]) C EX_ok EX_vm 6 1 1 (tX0_hasCase F 0 (by decide) (Int32.toInt64 p1) u) rfl gX6_see_X0_hasCase rfl rfl rfl (by decide +kernel) ⟨Nat.le_of_ble_eq_true rfl, Nat.le_of_ble_eq_true rfl⟩ (wX_X0 ad cI cZ _ 0 (by decide)) rfl rfl (Nat.le_of_ble_eq_true rfl) dX6_see_6 (fun r2 u1 => ?_)
  refine g_if_eq C 9 33 dX6_see_9 (by decide) ?_ ?_
  · skip
    refine g_iconst C 33 (-1) dX6_see_33 rfl ?_
    exact g_iret C 34 dX6_see_34
  · skip
    refine g_aload_n C 12 0 dX6_see_12 rfl ?_
    refine gfX_X6_court C 13 iX6 (List.mem_cons_of_mem _ (List.mem_append_right _ wgL_1_15.1)) dX6_see_13 ?_
    refine g_iload_n C 16 2 dX6_see_16 rfl ?_
    refine g_callVi (st := []) (As := [.int p2]) C EX_ok EX_vm 17 1 1 (tX0_hasJudge F 0 (by decide) p2 u1) rfl gX6_see_X0_hasJudge rfl rfl rfl (by decide +kernel) ⟨Nat.le_of_ble_eq_true rfl, Nat.le_of_ble_eq_true rfl⟩ (wX_X0 ad cI cZ _ 0 (by decide)) rfl rfl (Nat.le_of_ble_eq_true rfl) dX6_see_17 (fun r4 u3 => ?_)
    refine g_if_eq C 20 33 dX6_see_20 (by decide) ?_ ?_
    · skip
      refine g_iconst C 33 (-1) dX6_see_33 rfl ?_
      exact g_iret C 34 dX6_see_34
    · skip
      refine g_iload_n C 23 3 dX6_see_23 rfl ?_
      refine g_i2l C 24 dX6_see_24 ?_
      refine g_iconst C 25 1 dX6_see_25 rfl ?_
      refine g_iconst C 26 3 dX6_see_26 rfl ?_
      refine g_callSi (st := []) (As := [.long (Int32.toInt64 p3), .int 1, .int 3]) C EX_ok EX_vm 27 3 (tX6_isIn F (Int32.toInt64 p3) 1 3 u3) rfl gX6_see_X6_isIn rfl rfl rfl (by decide +kernel) ⟨Nat.le_of_ble_eq_true rfl, Nat.le_of_ble_eq_true rfl⟩ rfl (Nat.le_of_ble_eq_true rfl) dX6_see_27 (fun r6 u5 => ?_)
      refine g_if_ne C 30 35 dX6_see_30 (by decide) ?_ ?_
      · skip
        refine g_aload_n C 35 0 dX6_see_35 rfl ?_
        refine gfX_X6_memory C 36 iX6 (List.mem_cons_of_mem _ (List.mem_append_right _ wgL_2_11.1)) dX6_see_36 ?_
        refine g_iload_n C 39 1 dX6_see_39 rfl ?_
        refine g_iload_n C 40 2 dX6_see_40 rfl ?_
        refine g_iload_n C 41 3 dX6_see_41 rfl ?_
        refine g_callVi (st := []) (As := [.int p1, .int p2, .int p3]) C EX_ok EX_vm 42 8 3 (tX1_add F p1 p2 p3 u5) rfl gX6_see_X1_add rfl rfl rfl (by decide +kernel) ⟨Nat.le_of_ble_eq_true rfl, Nat.le_of_ble_eq_true rfl⟩ rfl rfl rfl (Nat.le_of_ble_eq_true rfl) dX6_see_42 (fun r8 u7 => ?_)
        refine g_if_eq C 45 58 dX6_see_45 (by decide) ?_ ?_
        · skip
          refine g_bipush C 58 (-3) dX6_see_58 rfl ?_
          exact g_iret C 60 dX6_see_60
        · skip
          refine g_aload_n C 48 0 dX6_see_48 rfl ?_
          refine gfX_X6_memory C 49 iX6 (List.mem_cons_of_mem _ (List.mem_append_right _ wgL_2_11.1)) dX6_see_49 ?_
          refine gfX_X1_size C 52 iX1 (List.mem_cons_of_mem _ (List.mem_append_right _ wgL_7_14.1)) dX6_see_52 ?_
          refine g_goto C 55 60 dX6_see_55 (by decide) ?_
          exact g_iret C 60 dX6_see_60
      · skip
        refine g_iconst C 33 (-1) dX6_see_33 rfl ?_
        exact g_iret C 34 dX6_see_34
def pX6_forget (F : Nat) (p1 : Int32) (u : St) : Option (Int32 × St) :=
  bd (pX6_isIn F (Int32.toInt64 p1) 0 (u.1 29) u) (fun (r2 : Int32) (u1 : St) => if r2 = 0 then some ((-1), u1) else vl (u1.1 29) (fun v3 => vl (stf u1 29 p1) (fun (u4 : St) => some (v3, u4))))
set_option maxRecDepth 100000 in
set_option maxHeartbeats 4000000 in
theorem tX6_forget {l : Launch} {D : va_G} {cI cZ : ClassId} {ad : Nat → Nat} {tBURNS tFLAME_BOUNDS : Nat} {tS : Option Nat} {adK adV : Nat → Nat} (F : Nat) (p1 : Int32) (u : St) : CtI l D [(cI, .int), (cZ, .boolean)] (wX ad cI cZ) (EX tBURNS tFLAME_BOUNDS tS adK adV) yX6_forget wsX6_forget ({ frames := 1, cells := 0, slots := 0, locals := 23 } : Room) [.ref (ad 0), .int p1] u (pX6_forget F p1 u) := by
  refine ctI_of (own := RX6) (cc := cX6_forget) (n := 3) (ret := (some .int)) (by decide) rfl rfl (Nat.le_of_ble_eq_true rfl) (lv := [(0, .ref (ad 0)), (1, .int p1)]) rfl (fun C => ?_)
  have iX1 : ∀ w ∈ wsX10, w ∈ wsX6_forget := fun w h => List.mem_cons_of_mem _ (List.mem_append_right _ (inlX1 w h))
  have iX6 : ∀ w ∈ wsX60, w ∈ wsX6_forget := fun w h => List.mem_cons_of_mem _ (List.mem_append_right _ (inlX6 w h))
  rw [pX6_forget]
  refine g_iload_n C 0 1 dX6_forget_0 rfl ?_
  refine g_i2l C 1 dX6_forget_1 ?_
  refine g_iconst C 2 0 dX6_forget_2 rfl ?_
  refine g_aload_n C 3 0 dX6_forget_3 rfl ?_
  refine gfX_X6_memory C 4 iX6 (List.mem_cons_of_mem _ (List.mem_append_right _ wgL_2_11.1)) dX6_forget_4 ?_
  refine gfX_X1_size C 7 iX1 (List.mem_cons_of_mem _ (List.mem_append_right _ wgL_7_14.1)) dX6_forget_7 ?_
  refine g_callSi (st := []) (As := [.long (Int32.toInt64 p1), .int 0, .int (u.1 29)]) C EX_ok EX_vm 10 3 (tX6_isIn F (Int32.toInt64 p1) 0 (u.1 29) u) rfl gX6_forget_X6_isIn rfl rfl rfl (by decide +kernel) ⟨Nat.le_of_ble_eq_true rfl, Nat.le_of_ble_eq_true rfl⟩ rfl (Nat.le_of_ble_eq_true rfl) dX6_forget_10 (fun r2 u1 => ?_)
  refine g_if_ne C 13 18 dX6_forget_13 (by decide) ?_ ?_
  · skip
    refine g_aload_n C 18 0 dX6_forget_18 rfl ?_
    refine gfX_X6_memory C 19 iX6 (List.mem_cons_of_mem _ (List.mem_append_right _ wgL_2_11.1)) dX6_forget_19 ?_
    refine gfX_X1_size C 22 iX1 (List.mem_cons_of_mem _ (List.mem_append_right _ wgL_7_14.1)) dX6_forget_22 ?_
    refine g_istore_nV C 25 (fun v3 => [(2, .int v3), (0, .ref (ad 0)), (1, .int p1)]) dX6_forget_25 (by decide) (fun _ => rfl) (fun v3 => ?_)
    refine g_aload_n C 26 1 dX6_forget_26 rfl ?_
    refine gfX_X6_memory C 27 iX6 (List.mem_cons_of_mem _ (List.mem_append_right _ wgL_2_11.1)) dX6_forget_27 ?_
    refine g_iload_n C 30 2 dX6_forget_30 rfl ?_
    refine pfX_X1_size C 31 iX1 (List.mem_cons_of_mem _ (List.mem_append_right _ wgL_7_14.1)) dX6_forget_31 (fun u4 => ?_)
    refine g_iload_n C 34 0 dX6_forget_34 rfl ?_
    exact g_iret C 35 dX6_forget_35
  · skip
    refine g_iconst C 16 (-1) dX6_forget_16 rfl ?_
    exact g_iret C 17 dX6_forget_17
def bX1_fits_3 (F : Nat) (p3 : Int32) (p4 : Int32) (p5 : Int32) (self3 : Int32 → St → Option (Int32 × St)) (x1 : Int32) (u2 : St) : Option (Int32 × St) :=
  if (u2.1 29) ≤ x1 then some (1, u2) else gd (inb x1 6) (gd (inb x1 6) (bd (pX5_prepare F (u2.2 60 (Int32.toNatClampNeg x1)) (u2.2 61 (Int32.toNatClampNeg x1)) 0 u2) (fun (_ : Unit) (u4 : St) => gd (inb x1 6) (jn (fun (u5 : St) => bd (pX5_verdictHeld F u5) (fun (r7 : Int32) (u6 : St) => gd (inb x1 6) (if r7 = (u6.2 62 (Int32.toNatClampNeg x1)) then (self3 (x1 + 1) u6) else some (0, u6)))) (fun (J55 : St → Option (Int32 × St)) => if (u4.2 61 (Int32.toNatClampNeg x1)) = p3 then vl (stf u4 24 p4) (fun (u8 : St) => vl (stf u8 25 p5) (fun (u9 : St) => (J55 u9))) else (J55 u4))))))
def pX1_fits (F : Nat) (p3 : Int32) (p4 : Int32) (p5 : Int32) (u : St) : Option (Int32 × St) :=
  (lq1 (bX1_fits_3 F p3 p4 p5) F 0 u)
set_option maxRecDepth 100000 in
set_option maxHeartbeats 4000000 in
theorem tX1_fits {l : Launch} {D : va_G} {cI cZ : ClassId} {ad : Nat → Nat} {tBURNS tFLAME_BOUNDS : Nat} {tS : Option Nat} {adK adV : Nat → Nat} (F : Nat) (p3 : Int32) (p4 : Int32) (p5 : Int32) (u : St) : CtI l D [(cI, .int), (cZ, .boolean)] (wX ad cI cZ) (EX tBURNS tFLAME_BOUNDS tS adK adV) yX1_fits wsX1_fits ({ frames := 3, cells := 0, slots := 0, locals := 62 } : Room) [.ref (ad 8), .ref (ad 1), .ref (ad 6), .int p3, .int p4, .int p5] u (pX1_fits F p3 p4 p5 u) := by
  refine ctI_of (own := RX1) (cc := cX1_fits) (n := 7) (ret := (some .boolean)) (by decide) rfl rfl (Nat.le_of_ble_eq_true rfl) (lv := [(0, .ref (ad 8)), (1, .ref (ad 1)), (2, .ref (ad 6)), (3, .int p3), (4, .int p4), (5, .int p5)]) rfl (fun C => ?_)
  have iX1 : ∀ w ∈ wsX10, w ∈ wsX1_fits := fun w h => List.mem_cons_of_mem _ (List.mem_append_right _ (inlX1 w h))
  have iX5 : ∀ w ∈ wsX50, w ∈ wsX1_fits := fun w h => List.mem_cons_of_mem _ (List.mem_append_right _ (inlX5 w h))
  rw [pX1_fits]
  refine g_iconst C 0 0 dX1_fits_0 rfl ?_
  refine g_istore C 1 [(6, .int 0), (0, .ref (ad 8)), (1, .ref (ad 1)), (2, .ref (ad 6)), (3, .int p3), (4, .int p4), (5, .int p5)] dX1_fits_1 (by decide) rfl ?_
  refine g_sub _ [1, 2, 3, 4, 5, 6, 0] rfl ?_
  refine g_lq1 (fun (x1 : Int32) => [(0, .ref (ad 8)), (1, .ref (ad 1)), (2, .ref (ad 6)), (3, .int p3), (4, .int p4), (5, .int p5), (6, .int x1)]) (fun self3 hself3 x1 u2 => ?_) F 0 u
  rw [bX1_fits_3]
  refine g_iload C 3 6 dX1_fits_3 rfl ?_
  refine g_aload_n C 5 0 dX1_fits_5 rfl ?_
  refine gfX_X1_size C 6 iX1 (List.mem_cons_of_mem _ (List.mem_append_right _ wgL_5_3.1)) dX1_fits_6 ?_
  refine g_icmp_ge C 9 77 dX1_fits_9 (by decide) ?_ ?_
  · skip
    refine g_iconst C 77 1 dX1_fits_77 rfl ?_
    exact g_nret C 78 rfl dX1_fits_78
  · skip
    refine g_aload_n C 12 2 dX1_fits_12 rfl ?_
    refine g_aload_n C 13 1 dX1_fits_13 rfl ?_
    refine g_aload_n C 14 0 dX1_fits_14 rfl ?_
    refine gfX_X1_ofCase C 15 iX1 (List.mem_cons_of_mem _ (List.mem_append_right _ wgL_5_0.1)) dX1_fits_15 ?_
    refine g_iload C 18 6 dX1_fits_18 rfl ?_
    refine g_iald C 20 (10 + 60) 0 (wX_arr 60 (by decide)) rfl dX1_fits_20 ?_
    refine g_aload_n C 21 0 dX1_fits_21 rfl ?_
    refine gfX_X1_ofJudge C 22 iX1 (List.mem_cons_of_mem _ (List.mem_append_right _ wgL_5_1.1)) dX1_fits_22 ?_
    refine g_iload C 25 6 dX1_fits_25 rfl ?_
    refine g_iald C 27 (10 + 61) 0 (wX_arr 61 (by decide)) rfl dX1_fits_27 ?_
    refine g_iconst C 28 0 dX1_fits_28 rfl ?_
    refine g_callVv (st := []) (As := [.ref (ad 1), .int (u2.2 60 (Int32.toNatClampNeg x1)), .int (u2.2 61 (Int32.toNatClampNeg x1)), .int 0]) C EX_ok EX_vm 29 6 4 (tX5_prepare F (u2.2 60 (Int32.toNatClampNeg x1)) (u2.2 61 (Int32.toNatClampNeg x1)) 0 u2) rfl gX1_fits_X5_prepare rfl rfl rfl (by decide +kernel) ⟨Nat.le_of_ble_eq_true rfl, Nat.le_of_ble_eq_true rfl⟩ rfl rfl rfl (Nat.le_of_ble_eq_true rfl) dX1_fits_29 (fun u4 => ?_)
    refine g_aload_n C 32 0 dX1_fits_32 rfl ?_
    refine gfX_X1_ofJudge C 33 iX1 (List.mem_cons_of_mem _ (List.mem_append_right _ wgL_5_1.1)) dX1_fits_33 ?_
    refine g_iload C 36 6 dX1_fits_36 rfl ?_
    refine g_iald C 38 (10 + 61) 0 (wX_arr 61 (by decide)) rfl dX1_fits_38 ?_
    refine g_iload_n C 39 3 dX1_fits_39 rfl ?_
    refine g_jn0 55 ([(0, .ref (ad 8)), (1, .ref (ad 1)), (2, .ref (ad 6)), (3, .int p3), (4, .int p4), (5, .int p5), (6, .int x1)]) ([]) (fun u5 => ?_) (fun J55 hJ55 => ?_)
    · skip
      refine g_aload_n C 55 2 dX1_fits_55 rfl ?_
      refine g_callVi (st := []) (As := []) C EX_ok EX_vm 56 6 0 (tX5_verdictHeld F u5) rfl gX1_fits_X5_verdictHeld rfl rfl rfl (by decide +kernel) ⟨Nat.le_of_ble_eq_true rfl, Nat.le_of_ble_eq_true rfl⟩ rfl rfl rfl (Nat.le_of_ble_eq_true rfl) dX1_fits_56 (fun r7 u6 => ?_)
      refine g_aload_n C 59 0 dX1_fits_59 rfl ?_
      refine gfX_X1_verdict C 60 iX1 (List.mem_cons_of_mem _ (List.mem_append_right _ wgL_5_2.1)) dX1_fits_60 ?_
      refine g_iload C 63 6 dX1_fits_63 rfl ?_
      refine g_iald C 65 (10 + 62) 0 (wX_arr 62 (by decide)) rfl dX1_fits_65 ?_
      refine g_icmp_eq C 66 71 dX1_fits_66 (by decide) ?_ ?_
      · skip
        refine g_iinc C 71 6 [(6, .int (x1 + 1)), (0, .ref (ad 8)), (1, .ref (ad 1)), (2, .ref (ad 6)), (3, .int p3), (4, .int p4), (5, .int p5)] dX1_fits_71 rfl rfl (by decide) rfl ?_
        refine g_goto C 74 3 dX1_fits_74 (by decide) ?_
        exact g_sub _ [1, 2, 3, 4, 5, 6, 0] rfl (hself3 (x1 + 1) u6)
      · skip
        refine g_iconst C 69 0 dX1_fits_69 rfl ?_
        exact g_nret C 70 rfl dX1_fits_70
    · skip
      refine g_icmp_ne C 40 55 dX1_fits_40 (by decide) ?_ ?_
      · skip
        exact g_sub _ [0, 1, 2, 3, 4, 5, 6] rfl (hJ55 u4)
      · skip
        refine g_aload_n C 43 2 dX1_fits_43 rfl ?_
        refine g_iload C 44 4 dX1_fits_44 rfl ?_
        refine pfX_X5_habit C 46 iX5 (List.mem_cons_of_mem _ (List.mem_append_right _ wgL_40_9.1)) dX1_fits_46 (fun u8 => ?_)
        refine g_aload_n C 49 2 dX1_fits_49 rfl ?_
        refine g_iload C 50 5 dX1_fits_50 rfl ?_
        refine pfX_X5_slow C 52 iX5 (List.mem_cons_of_mem _ (List.mem_append_right _ wgL_40_10.1)) dX1_fits_52 (fun u9 => ?_)
        exact g_sub _ [0, 1, 2, 3, 4, 5, 6] rfl (hJ55 u9)
def bX6_habitsAsSeen_4 (F : Nat) (p1 : Int32) (self4 : Int32 → Int32 → St → Option (Int32 × St)) (x1 : Int32) (x2 : Int32) (u3 : St) : Option (Int32 × St) :=
  if 4 ≤ x2 then some (x1, u3) else gd (inb p1 3) (bd (pX1_fits F p1 x2 (u3.2 8 (Int32.toNatClampNeg p1)) u3) (fun (r6 : Int32) (u5 : St) => jn (fun (a7 : Int32) (u8 : St) => vl (x1 ||| a7) (fun v9 => (self4 v9 (x2 + 1) u8))) (fun (J46 : Int32 → St → Option (Int32 × St)) => if r6 = 0 then (J46 0 u5) else (J46 (1 <<< (x2 &&& 31)) u5))))
def pX6_habitsAsSeen (F : Nat) (p1 : Int32) (u : St) : Option (Int32 × St) :=
  (lq2 (bX6_habitsAsSeen_4 F p1) F 0 0 u)
set_option maxRecDepth 100000 in
set_option maxHeartbeats 4000000 in
theorem tX6_habitsAsSeen {l : Launch} {D : va_G} {cI cZ : ClassId} {ad : Nat → Nat} {tBURNS tFLAME_BOUNDS : Nat} {tS : Option Nat} {adK adV : Nat → Nat} (F : Nat) (p1 : Int32) (u : St) : CtI l D [(cI, .int), (cZ, .boolean)] (wX ad cI cZ) (EX tBURNS tFLAME_BOUNDS tS adK adV) yX6_habitsAsSeen wsX6_habitsAsSeen ({ frames := 4, cells := 0, slots := 0, locals := 88 } : Room) [.ref (ad 0), .int p1] u (pX6_habitsAsSeen F p1 u) := by
  refine ctI_of (own := RX6) (cc := cX6_habitsAsSeen) (n := 4) (ret := (some .int)) (by decide) rfl rfl (Nat.le_of_ble_eq_true rfl) (lv := [(0, .ref (ad 0)), (1, .int p1)]) rfl (fun C => ?_)
  have iX0 : ∀ w ∈ wsX00, w ∈ wsX6_habitsAsSeen := fun w h => List.mem_cons_of_mem _ (List.mem_append_right _ (inlX0 w h))
  have iX6 : ∀ w ∈ wsX60, w ∈ wsX6_habitsAsSeen := fun w h => List.mem_cons_of_mem _ (List.mem_append_right _ (inlX6 w h))
  rw [pX6_habitsAsSeen]
  refine g_iconst C 0 0 dX6_habitsAsSeen_0 rfl ?_
  refine g_istore_n C 1 [(2, .int 0), (0, .ref (ad 0)), (1, .int p1)] dX6_habitsAsSeen_1 (by decide) rfl ?_
  refine g_iconst C 2 0 dX6_habitsAsSeen_2 rfl ?_
  refine g_istore_n C 3 [(3, .int 0), (2, .int 0), (0, .ref (ad 0)), (1, .int p1)] dX6_habitsAsSeen_3 (by decide) rfl ?_
  refine g_sub _ [2, 3, 1, 0] rfl ?_
  refine g_lq2 (fun (x1 : Int32) (x2 : Int32) => [(0, .ref (ad 0)), (1, .int p1), (2, .int x1), (3, .int x2)]) (fun self4 hself4 x1 x2 u3 => ?_) F 0 0 u
  rw [bX6_habitsAsSeen_4]
  refine g_iload_n C 4 3 dX6_habitsAsSeen_4 rfl ?_
  refine g_iconst C 5 4 dX6_habitsAsSeen_5 rfl ?_
  refine g_icmp_ge C 6 54 dX6_habitsAsSeen_6 (by decide) ?_ ?_
  · skip
    refine g_iload_n C 54 2 dX6_habitsAsSeen_54 rfl ?_
    exact g_iret C 55 dX6_habitsAsSeen_55
  · skip
    refine g_iload_n C 9 2 dX6_habitsAsSeen_9 rfl ?_
    refine g_aload_n C 10 0 dX6_habitsAsSeen_10 rfl ?_
    refine gfX_X6_memory C 11 iX6 (List.mem_cons_of_mem _ (List.mem_append_right _ wgL_2_11.1)) dX6_habitsAsSeen_11 ?_
    refine g_aload_n C 14 0 dX6_habitsAsSeen_14 rfl ?_
    refine gfX_X6_court C 15 iX6 (List.mem_cons_of_mem _ (List.mem_append_right _ wgL_1_15.1)) dX6_habitsAsSeen_15 ?_
    refine g_aload_n C 18 0 dX6_habitsAsSeen_18 rfl ?_
    refine gfX_X6_trial C 19 iX6 (List.mem_cons_of_mem _ (List.mem_append_right _ wgL_2_3.1)) dX6_habitsAsSeen_19 ?_
    refine g_iload_n C 22 1 dX6_habitsAsSeen_22 rfl ?_
    refine g_iload_n C 23 3 dX6_habitsAsSeen_23 rfl ?_
    refine g_aload_n C 24 0 dX6_habitsAsSeen_24 rfl ?_
    refine gfX_X6_court C 25 iX6 (List.mem_cons_of_mem _ (List.mem_append_right _ wgL_1_15.1)) dX6_habitsAsSeen_25 ?_
    refine gfX_X0_slow 0 (by decide) C 28 iX0 (List.mem_cons_of_mem _ (List.mem_append_right _ wgL_21_0.1)) dX6_habitsAsSeen_28 ?_
    refine g_iload_n C 31 1 dX6_habitsAsSeen_31 rfl ?_
    refine g_iald C 32 (10 + 8) 0 (wX_arr 8 (by decide)) rfl dX6_habitsAsSeen_32 ?_
    refine g_callVi (st := [.int x1]) (As := [.ref (ad 1), .ref (ad 6), .int p1, .int x2, .int (u3.2 8 (Int32.toNatClampNeg p1))]) C EX_ok EX_vm 33 8 5 (tX1_fits F p1 x2 (u3.2 8 (Int32.toNatClampNeg p1)) u3) rfl gX6_habitsAsSeen_X1_fits rfl rfl rfl (by decide +kernel) ⟨Nat.le_of_ble_eq_true rfl, Nat.le_of_ble_eq_true rfl⟩ rfl rfl rfl (Nat.le_of_ble_eq_true rfl) dX6_habitsAsSeen_33 (fun r6 u5 => ?_)
    refine g_jn1 46 (fun (a7 : Int32) => [(0, .ref (ad 0)), (1, .int p1), (3, .int x2)]) (fun (a7 : Int32) => [.int a7, .int x1]) (fun a7 u8 => ?_) (fun J46 hJ46 => ?_)
    · skip
      refine g_ior C 46 dX6_habitsAsSeen_46 ?_
      refine g_istore_nV C 47 (fun v9 => [(2, .int v9), (0, .ref (ad 0)), (1, .int p1), (3, .int x2)]) dX6_habitsAsSeen_47 (by decide) (fun _ => rfl) (fun v9 => ?_)
      refine g_iinc C 48 3 [(3, .int (x2 + 1)), (2, .int v9), (0, .ref (ad 0)), (1, .int p1)] dX6_habitsAsSeen_48 rfl rfl (by decide) rfl ?_
      refine g_goto C 51 4 dX6_habitsAsSeen_51 (by decide) ?_
      exact g_sub _ [2, 3, 1, 0] rfl (hself4 v9 (x2 + 1) u8)
    · skip
      refine g_if_eq C 36 45 dX6_habitsAsSeen_36 (by decide) ?_ ?_
      · skip
        refine g_iconst C 45 0 dX6_habitsAsSeen_45 rfl ?_
        exact g_sub _ [0, 1, 3] rfl (hJ46 0 u5)
      · skip
        refine g_iconst C 39 1 dX6_habitsAsSeen_39 rfl ?_
        refine g_iload_n C 40 3 dX6_habitsAsSeen_40 rfl ?_
        refine g_ishl C 41 dX6_habitsAsSeen_41 ?_
        refine g_goto C 42 46 dX6_habitsAsSeen_42 (by decide) ?_
        exact g_sub _ [0, 1, 3] rfl (hJ46 (1 <<< (x2 &&& 31)) u5)
def pX6_habits (F : Nat) (p1 : Int32) (u : St) : Option (Int32 × St) :=
  bd (pX0_hasJudge F 0 p1 u) (fun (r2 : Int32) (u1 : St) => if r2 = 0 then some ((-1), u1) else bd (pX6_habitsAsSeen F p1 u1) (fun (r4 : Int32) (u3 : St) => some (r4, u3)))
set_option maxRecDepth 100000 in
set_option maxHeartbeats 4000000 in
theorem tX6_habits {l : Launch} {D : va_G} {cI cZ : ClassId} {ad : Nat → Nat} {tBURNS tFLAME_BOUNDS : Nat} {tS : Option Nat} {adK adV : Nat → Nat} (F : Nat) (p1 : Int32) (u : St) : CtI l D [(cI, .int), (cZ, .boolean)] (wX ad cI cZ) (EX tBURNS tFLAME_BOUNDS tS adK adV) yX6_habits wsX6_habits ({ frames := 5, cells := 0, slots := 0, locals := 111 } : Room) [.ref (ad 0), .int p1] u (pX6_habits F p1 u) := by
  refine ctI_of (own := RX6) (cc := cX6_habits) (n := 2) (ret := (some .int)) (by decide) rfl rfl (Nat.le_of_ble_eq_true rfl) (lv := [(0, .ref (ad 0)), (1, .int p1)]) rfl (fun C => ?_)
  have iX6 : ∀ w ∈ wsX60, w ∈ wsX6_habits := fun w h => List.mem_cons_of_mem _ (List.mem_append_right _ (inlX6 w h))
  rw [pX6_habits]
  refine g_aload_n C 0 0 dX6_habits_0 rfl ?_
  refine gfX_X6_court C 1 iX6 (List.mem_cons_of_mem _ (List.mem_append_right _ wgL_1_15.1)) dX6_habits_1 ?_
  refine g_iload_n C 4 1 dX6_habits_4 rfl ?_
  refine g_callVi (st := []) (As := [.int p1]) C EX_ok EX_vm 5 1 1 (tX0_hasJudge F 0 (by decide) p1 u) rfl gX6_habits_X0_hasJudge rfl rfl rfl (by decide +kernel) ⟨Nat.le_of_ble_eq_true rfl, Nat.le_of_ble_eq_true rfl⟩ (wX_X0 ad cI cZ _ 0 (by decide)) rfl rfl (Nat.le_of_ble_eq_true rfl) dX6_habits_5 (fun r2 u1 => ?_)
  refine g_if_eq C 8 19 dX6_habits_8 (by decide) ?_ ?_
  · skip
    refine g_iconst C 19 (-1) dX6_habits_19 rfl ?_
    exact g_iret C 20 dX6_habits_20
  · skip
    refine g_aload_n C 11 0 dX6_habits_11 rfl ?_
    refine g_iload_n C 12 1 dX6_habits_12 rfl ?_
    refine g_callVi (st := []) (As := [.int p1]) C EX_ok EX_vm 13 0 1 (tX6_habitsAsSeen F p1 u1) rfl gX6_habits_X6_habitsAsSeen rfl rfl rfl (by decide +kernel) ⟨Nat.le_of_ble_eq_true rfl, Nat.le_of_ble_eq_true rfl⟩ rfl rfl rfl (Nat.le_of_ble_eq_true rfl) dX6_habits_13 (fun r4 u3 => ?_)
    refine g_goto C 16 20 dX6_habits_16 (by decide) ?_
    exact g_iret C 20 dX6_habits_20
def bX6_slows_17 (F : Nat) (p1 : Int32) (self6 : Int32 → Int32 → St → Option (Int32 × St)) (x3 : Int32) (x4 : Int32) (u5 : St) : Option (Int32 × St) :=
  if 9 < x4 then some (x3, u5) else gd (inb p1 3) (bd (pX1_fits F p1 (u5.2 7 (Int32.toNatClampNeg p1)) x4 u5) (fun (r8 : Int32) (u7 : St) => jn (fun (a9 : Int32) (u10 : St) => (self6 a9 (x4 + 1) u10)) (fun (J58 : Int32 → St → Option (Int32 × St)) => if r8 = 0 then (J58 x3 u7) else vl (x3 ||| (1 <<< (x4 &&& 31))) (fun v11 => (J58 v11 u7)))))
def pX6_slows (F : Nat) (p1 : Int32) (u : St) : Option (Int32 × St) :=
  bd (pX0_hasJudge F 0 p1 u) (fun (r2 : Int32) (u1 : St) => if r2 = 0 then some ((-1), u1) else (lq2 (bX6_slows_17 F p1) F 0 1 u1))
set_option maxRecDepth 100000 in
set_option maxHeartbeats 4000000 in
theorem tX6_slows {l : Launch} {D : va_G} {cI cZ : ClassId} {ad : Nat → Nat} {tBURNS tFLAME_BOUNDS : Nat} {tS : Option Nat} {adK adV : Nat → Nat} (F : Nat) (p1 : Int32) (u : St) : CtI l D [(cI, .int), (cZ, .boolean)] (wX ad cI cZ) (EX tBURNS tFLAME_BOUNDS tS adK adV) yX6_slows wsX6_slows ({ frames := 4, cells := 0, slots := 0, locals := 88 } : Room) [.ref (ad 0), .int p1] u (pX6_slows F p1 u) := by
  refine ctI_of (own := RX6) (cc := cX6_slows) (n := 4) (ret := (some .int)) (by decide) rfl rfl (Nat.le_of_ble_eq_true rfl) (lv := [(0, .ref (ad 0)), (1, .int p1)]) rfl (fun C => ?_)
  have iX0 : ∀ w ∈ wsX00, w ∈ wsX6_slows := fun w h => List.mem_cons_of_mem _ (List.mem_append_right _ (inlX0 w h))
  have iX6 : ∀ w ∈ wsX60, w ∈ wsX6_slows := fun w h => List.mem_cons_of_mem _ (List.mem_append_right _ (inlX6 w h))
  rw [pX6_slows]
  refine g_aload_n C 0 0 dX6_slows_0 rfl ?_
  refine gfX_X6_court C 1 iX6 (List.mem_cons_of_mem _ (List.mem_append_right _ wgL_1_15.1)) dX6_slows_1 ?_
  refine g_iload_n C 4 1 dX6_slows_4 rfl ?_
  refine g_callVi (st := []) (As := [.int p1]) C EX_ok EX_vm 5 1 1 (tX0_hasJudge F 0 (by decide) p1 u) rfl gX6_slows_X0_hasJudge rfl rfl rfl (by decide +kernel) ⟨Nat.le_of_ble_eq_true rfl, Nat.le_of_ble_eq_true rfl⟩ (wX_X0 ad cI cZ _ 0 (by decide)) rfl rfl (Nat.le_of_ble_eq_true rfl) dX6_slows_5 (fun r2 u1 => ?_)
  refine g_if_ne C 8 13 dX6_slows_8 (by decide) ?_ ?_
  · skip
    refine g_iconst C 13 0 dX6_slows_13 rfl ?_
    refine g_istore_n C 14 [(2, .int 0), (0, .ref (ad 0)), (1, .int p1)] dX6_slows_14 (by decide) rfl ?_
    refine g_iconst C 15 1 dX6_slows_15 rfl ?_
    refine g_istore_n C 16 [(3, .int 1), (2, .int 0), (0, .ref (ad 0)), (1, .int p1)] dX6_slows_16 (by decide) rfl ?_
    refine g_sub _ [2, 3, 1, 0] rfl ?_
    refine g_lq2 (fun (x3 : Int32) (x4 : Int32) => [(0, .ref (ad 0)), (1, .int p1), (2, .int x3), (3, .int x4)]) (fun self6 hself6 x3 x4 u5 => ?_) F 0 1 u1
    rw [bX6_slows_17]
    refine g_iload_n C 17 3 dX6_slows_17 rfl ?_
    refine g_bipush C 18 9 dX6_slows_18 rfl ?_
    refine g_icmp_gt C 20 64 dX6_slows_20 (by decide) ?_ ?_
    · skip
      refine g_iload_n C 64 2 dX6_slows_64 rfl ?_
      exact g_iret C 65 dX6_slows_65
    · skip
      refine g_aload_n C 23 0 dX6_slows_23 rfl ?_
      refine gfX_X6_memory C 24 iX6 (List.mem_cons_of_mem _ (List.mem_append_right _ wgL_2_11.1)) dX6_slows_24 ?_
      refine g_aload_n C 27 0 dX6_slows_27 rfl ?_
      refine gfX_X6_court C 28 iX6 (List.mem_cons_of_mem _ (List.mem_append_right _ wgL_1_15.1)) dX6_slows_28 ?_
      refine g_aload_n C 31 0 dX6_slows_31 rfl ?_
      refine gfX_X6_trial C 32 iX6 (List.mem_cons_of_mem _ (List.mem_append_right _ wgL_2_3.1)) dX6_slows_32 ?_
      refine g_iload_n C 35 1 dX6_slows_35 rfl ?_
      refine g_aload_n C 36 0 dX6_slows_36 rfl ?_
      refine gfX_X6_court C 37 iX6 (List.mem_cons_of_mem _ (List.mem_append_right _ wgL_1_15.1)) dX6_slows_37 ?_
      refine gfX_X0_habit 0 (by decide) C 40 iX0 (List.mem_cons_of_mem _ (List.mem_append_right _ wgL_20_23.1)) dX6_slows_40 ?_
      refine g_iload_n C 43 1 dX6_slows_43 rfl ?_
      refine g_iald C 44 (10 + 7) 0 (wX_arr 7 (by decide)) rfl dX6_slows_44 ?_
      refine g_iload_n C 45 3 dX6_slows_45 rfl ?_
      refine g_callVi (st := []) (As := [.ref (ad 1), .ref (ad 6), .int p1, .int (u5.2 7 (Int32.toNatClampNeg p1)), .int x4]) C EX_ok EX_vm 46 8 5 (tX1_fits F p1 (u5.2 7 (Int32.toNatClampNeg p1)) x4 u5) rfl gX6_slows_X1_fits rfl rfl rfl (by decide +kernel) ⟨Nat.le_of_ble_eq_true rfl, Nat.le_of_ble_eq_true rfl⟩ rfl rfl rfl (Nat.le_of_ble_eq_true rfl) dX6_slows_46 (fun r8 u7 => ?_)
      refine g_jn1 58 (fun (a9 : Int32) => [(0, .ref (ad 0)), (1, .int p1), (2, .int a9), (3, .int x4)]) (fun (a9 : Int32) => []) (fun a9 u10 => ?_) (fun J58 hJ58 => ?_)
      · skip
        refine g_iinc C 58 3 [(3, .int (x4 + 1)), (0, .ref (ad 0)), (1, .int p1), (2, .int a9)] dX6_slows_58 rfl rfl (by decide) rfl ?_
        refine g_goto C 61 17 dX6_slows_61 (by decide) ?_
        exact g_sub _ [1, 2, 3, 0] rfl (hself6 a9 (x4 + 1) u10)
      · skip
        refine g_if_eq C 49 58 dX6_slows_49 (by decide) ?_ ?_
        · skip
          exact g_sub _ [0, 1, 2, 3] rfl (hJ58 x3 u7)
        · skip
          refine g_iload_n C 52 2 dX6_slows_52 rfl ?_
          refine g_iconst C 53 1 dX6_slows_53 rfl ?_
          refine g_iload_n C 54 3 dX6_slows_54 rfl ?_
          refine g_ishl C 55 dX6_slows_55 ?_
          refine g_ior C 56 dX6_slows_56 ?_
          refine g_istore_nV C 57 (fun v11 => [(2, .int v11), (0, .ref (ad 0)), (1, .int p1), (3, .int x4)]) dX6_slows_57 (by decide) (fun _ => rfl) (fun v11 => ?_)
          exact g_sub _ [1, 2, 0, 3] rfl (hJ58 v11 u7)
  · skip
    refine g_iconst C 11 (-1) dX6_slows_11 rfl ?_
    exact g_iret C 12 dX6_slows_12
def jX6_leftAtTheWorst_77 (F : Nat) (x1 : Int32) (x2 : Int32) (self4 : Int32 → Int32 → St → Option (Int32 × St)) (a5 : Int32) (u6 : St) : Option (Int32 × St) :=
  vl (if x1 < a5 then a5 else x1) (fun v7 => (self4 v7 (x2 + 1) u6))
def bX6_leftAtTheWorst_18 (F : Nat) (p1 : Int32) (p2 : Int32) (p3 : Int32) (x2 : Int32) (J77 : Int32 → St → Option (Int32 × St)) (self11 : Int32 → Int32 → St → Option (Int32 × St)) (x8 : Int32) (x9 : Int32) (u10 : St) : Option (Int32 × St) :=
  if 4 ≤ x9 then (J77 x8 u10) else bd (pX6_prepare F p1 p2 0 u10) (fun (_ : Unit) (u12 : St) => vl (stf u12 24 x9) (fun (u13 : St) => jn (fun (a14 : Int32) (u15 : St) => vl (x8 + a14) (fun v16 => (self11 v16 (x9 + 1) u15))) (fun (J68 : Int32 → St → Option (Int32 × St)) => jn (fun (u17 : St) => (J68 0 u17)) (fun (J67 : St → Option (Int32 × St)) => if ((p3 >>> (x9 &&& 31)) &&& 1) = 0 then (J67 u13) else bd (pX5_verdictHeld F u13) (fun (r19 : Int32) (u18 : St) => if r19 = x2 then (J68 1 u18) else (J67 u18))))))
def bX6_leftAtTheWorst_6 (F : Nat) (p1 : Int32) (p2 : Int32) (p3 : Int32) (self4 : Int32 → Int32 → St → Option (Int32 × St)) (x1 : Int32) (x2 : Int32) (u3 : St) : Option (Int32 × St) :=
  if 3 < x2 then some (x1, u3) else jn (jX6_leftAtTheWorst_77 F x1 x2 self4) (fun (J77 : Int32 → St → Option (Int32 × St)) => (lq2 (bX6_leftAtTheWorst_18 F p1 p2 p3 x2 J77) F 0 0 u3))
def pX6_leftAtTheWorst (F : Nat) (p1 : Int32) (p2 : Int32) (p3 : Int32) (u : St) : Option (Int32 × St) :=
  (lq2 (bX6_leftAtTheWorst_6 F p1 p2 p3) F 0 1 u)
set_option maxRecDepth 100000 in
set_option maxHeartbeats 4000000 in
theorem tX6_leftAtTheWorst {l : Launch} {D : va_G} {cI cZ : ClassId} {ad : Nat → Nat} {tBURNS tFLAME_BOUNDS : Nat} {tS : Option Nat} {adK adV : Nat → Nat} (F : Nat) (p1 : Int32) (p2 : Int32) (p3 : Int32) (u : St) : CtI l D [(cI, .int), (cZ, .boolean)] (wX ad cI cZ) (EX tBURNS tFLAME_BOUNDS tS adK adV) yX6_leftAtTheWorst wsX6_leftAtTheWorst ({ frames := 4, cells := 0, slots := 0, locals := 85 } : Room) [.ref (ad 0), .int p1, .int p2, .int p3] u (pX6_leftAtTheWorst F p1 p2 p3 u) := by
  refine ctI_of (own := RX6) (cc := cX6_leftAtTheWorst) (n := 8) (ret := (some .int)) (by decide) rfl rfl (Nat.le_of_ble_eq_true rfl) (lv := [(0, .ref (ad 0)), (1, .int p1), (2, .int p2), (3, .int p3)]) rfl (fun C => ?_)
  have iX5 : ∀ w ∈ wsX50, w ∈ wsX6_leftAtTheWorst := fun w h => List.mem_cons_of_mem _ (List.mem_append_right _ (inlX5 w h))
  have iX6 : ∀ w ∈ wsX60, w ∈ wsX6_leftAtTheWorst := fun w h => List.mem_cons_of_mem _ (List.mem_append_right _ (inlX6 w h))
  rw [pX6_leftAtTheWorst]
  refine g_iconst C 0 0 dX6_leftAtTheWorst_0 rfl ?_
  refine g_istore C 1 [(4, .int 0), (0, .ref (ad 0)), (1, .int p1), (2, .int p2), (3, .int p3)] dX6_leftAtTheWorst_1 (by decide) rfl ?_
  refine g_iconst C 3 1 dX6_leftAtTheWorst_3 rfl ?_
  refine g_istore C 4 [(5, .int 1), (4, .int 0), (0, .ref (ad 0)), (1, .int p1), (2, .int p2), (3, .int p3)] dX6_leftAtTheWorst_4 (by decide) rfl ?_
  refine g_sub _ [2, 3, 4, 5, 1, 0] rfl ?_
  refine g_lq2 (fun (x1 : Int32) (x2 : Int32) => [(0, .ref (ad 0)), (1, .int p1), (2, .int p2), (3, .int p3), (4, .int x1), (5, .int x2)]) (fun self4 hself4 x1 x2 u3 => ?_) F 0 1 u
  rw [bX6_leftAtTheWorst_6]
  refine g_iload C 6 5 dX6_leftAtTheWorst_6 rfl ?_
  refine g_iconst C 8 3 dX6_leftAtTheWorst_8 rfl ?_
  refine g_icmp_gt C 9 92 dX6_leftAtTheWorst_9 (by decide) ?_ ?_
  · skip
    refine g_iload C 92 4 dX6_leftAtTheWorst_92 rfl ?_
    exact g_iret C 94 dX6_leftAtTheWorst_94
  · skip
    refine g_iconst C 12 0 dX6_leftAtTheWorst_12 rfl ?_
    refine g_istore C 13 [(6, .int 0), (0, .ref (ad 0)), (1, .int p1), (2, .int p2), (3, .int p3), (4, .int x1), (5, .int x2)] dX6_leftAtTheWorst_13 (by decide) rfl ?_
    refine g_iconst C 15 0 dX6_leftAtTheWorst_15 rfl ?_
    refine g_istore C 16 [(7, .int 0), (6, .int 0), (0, .ref (ad 0)), (1, .int p1), (2, .int p2), (3, .int p3), (4, .int x1), (5, .int x2)] dX6_leftAtTheWorst_16 (by decide) rfl ?_
    refine g_jn1 77 (fun (a5 : Int32) => [(0, .ref (ad 0)), (1, .int p1), (2, .int p2), (3, .int p3), (4, .int x1), (5, .int x2), (6, .int a5)]) (fun (a5 : Int32) => []) (fun a5 u6 => ?_) (fun J77 hJ77 => ?_)
    · skip
      rw [jX6_leftAtTheWorst_77]
      refine g_iload C 77 4 dX6_leftAtTheWorst_77 rfl ?_
      refine g_iload C 79 6 dX6_leftAtTheWorst_79 rfl ?_
      refine g_mmax C 81 (by decide +kernel) (by decide +kernel) (by decide +kernel) (by decide +kernel) ⟨Nat.le_of_ble_eq_true rfl, Nat.le_of_ble_eq_true rfl⟩ dX6_leftAtTheWorst_81 ?_
      refine g_istoreV C 84 (fun v7 => [(4, .int v7), (0, .ref (ad 0)), (1, .int p1), (2, .int p2), (3, .int p3), (5, .int x2), (6, .int a5)]) dX6_leftAtTheWorst_84 (by decide) (fun _ => rfl) (fun v7 => ?_)
      refine g_iinc C 86 5 [(5, .int (x2 + 1)), (4, .int v7), (0, .ref (ad 0)), (1, .int p1), (2, .int p2), (3, .int p3), (6, .int a5)] dX6_leftAtTheWorst_86 rfl rfl (by decide) rfl ?_
      refine g_goto C 89 6 dX6_leftAtTheWorst_89 (by decide) ?_
      exact g_sub _ [2, 3, 4, 5, 1, 0] rfl (hself4 v7 (x2 + 1) u6)
    · skip
      refine g_sub _ [2, 3, 4, 5, 6, 7, 1, 0] rfl ?_
      refine g_lq2 (fun (x8 : Int32) (x9 : Int32) => [(0, .ref (ad 0)), (1, .int p1), (2, .int p2), (3, .int p3), (4, .int x1), (5, .int x2), (6, .int x8), (7, .int x9)]) (fun self11 hself11 x8 x9 u10 => ?_) F 0 0 u3
      rw [bX6_leftAtTheWorst_18]
      refine g_iload C 18 7 dX6_leftAtTheWorst_18 rfl ?_
      refine g_iconst C 20 4 dX6_leftAtTheWorst_20 rfl ?_
      refine g_icmp_ge C 21 77 dX6_leftAtTheWorst_21 (by decide) ?_ ?_
      · skip
        exact g_sub _ [0, 1, 2, 3, 4, 5, 6] rfl (hJ77 x8 u10)
      · skip
        refine g_aload_n C 24 0 dX6_leftAtTheWorst_24 rfl ?_
        refine g_iload_n C 25 1 dX6_leftAtTheWorst_25 rfl ?_
        refine g_iload_n C 26 2 dX6_leftAtTheWorst_26 rfl ?_
        refine g_iconst C 27 0 dX6_leftAtTheWorst_27 rfl ?_
        refine g_callVv (st := []) (As := [.int p1, .int p2, .int 0]) C EX_ok EX_vm 28 0 3 (tX6_prepare F p1 p2 0 u10) rfl gX6_leftAtTheWorst_X6_prepare rfl rfl rfl (by decide +kernel) ⟨Nat.le_of_ble_eq_true rfl, Nat.le_of_ble_eq_true rfl⟩ rfl rfl rfl (Nat.le_of_ble_eq_true rfl) dX6_leftAtTheWorst_28 (fun u12 => ?_)
        refine g_aload_n C 31 0 dX6_leftAtTheWorst_31 rfl ?_
        refine gfX_X6_trial C 32 iX6 (List.mem_cons_of_mem _ (List.mem_append_right _ wgL_2_3.1)) dX6_leftAtTheWorst_32 ?_
        refine g_iload C 35 7 dX6_leftAtTheWorst_35 rfl ?_
        refine pfX_X5_habit C 37 iX5 (List.mem_cons_of_mem _ (List.mem_append_right _ wgL_41_17.1)) dX6_leftAtTheWorst_37 (fun u13 => ?_)
        refine g_iload C 40 6 dX6_leftAtTheWorst_40 rfl ?_
        refine g_iload_n C 42 3 dX6_leftAtTheWorst_42 rfl ?_
        refine g_iload C 43 7 dX6_leftAtTheWorst_43 rfl ?_
        refine g_ishr C 45 dX6_leftAtTheWorst_45 ?_
        refine g_iconst C 46 1 dX6_leftAtTheWorst_46 rfl ?_
        refine g_iand C 47 dX6_leftAtTheWorst_47 ?_
        refine g_jn1 68 (fun (a14 : Int32) => [(0, .ref (ad 0)), (1, .int p1), (2, .int p2), (3, .int p3), (4, .int x1), (5, .int x2), (7, .int x9)]) (fun (a14 : Int32) => [.int a14, .int x8]) (fun a14 u15 => ?_) (fun J68 hJ68 => ?_)
        · skip
          refine g_iadd C 68 dX6_leftAtTheWorst_68 ?_
          refine g_istoreV C 69 (fun v16 => [(6, .int v16), (0, .ref (ad 0)), (1, .int p1), (2, .int p2), (3, .int p3), (4, .int x1), (5, .int x2), (7, .int x9)]) dX6_leftAtTheWorst_69 (by decide) (fun _ => rfl) (fun v16 => ?_)
          refine g_iinc C 71 7 [(7, .int (x9 + 1)), (6, .int v16), (0, .ref (ad 0)), (1, .int p1), (2, .int p2), (3, .int p3), (4, .int x1), (5, .int x2)] dX6_leftAtTheWorst_71 rfl rfl (by decide) rfl ?_
          refine g_goto C 74 18 dX6_leftAtTheWorst_74 (by decide) ?_
          exact g_sub _ [2, 3, 4, 5, 6, 7, 1, 0] rfl (hself11 v16 (x9 + 1) u15)
        · skip
          refine g_jn0 67 ([(0, .ref (ad 0)), (1, .int p1), (2, .int p2), (3, .int p3), (4, .int x1), (5, .int x2), (7, .int x9)]) ([.int x8]) (fun u17 => ?_) (fun J67 hJ67 => ?_)
          · skip
            refine g_iconst C 67 0 dX6_leftAtTheWorst_67 rfl ?_
            exact g_sub _ [0, 1, 2, 3, 4, 5, 6] rfl (hJ68 0 u17)
          · skip
            refine g_if_eq C 48 67 dX6_leftAtTheWorst_48 (by decide) ?_ ?_
            · skip
              exact g_sub _ [0, 1, 2, 3, 4, 5, 7] rfl (hJ67 u13)
            · skip
              refine g_aload_n C 51 0 dX6_leftAtTheWorst_51 rfl ?_
              refine gfX_X6_trial C 52 iX6 (List.mem_cons_of_mem _ (List.mem_append_right _ wgL_2_3.1)) dX6_leftAtTheWorst_52 ?_
              refine g_callVi (st := [.int x8]) (As := []) C EX_ok EX_vm 55 6 0 (tX5_verdictHeld F u13) rfl gX6_leftAtTheWorst_X5_verdictHeld rfl rfl rfl (by decide +kernel) ⟨Nat.le_of_ble_eq_true rfl, Nat.le_of_ble_eq_true rfl⟩ rfl rfl rfl (Nat.le_of_ble_eq_true rfl) dX6_leftAtTheWorst_55 (fun r19 u18 => ?_)
              refine g_iload C 58 5 dX6_leftAtTheWorst_58 rfl ?_
              refine g_icmp_ne C 60 67 dX6_leftAtTheWorst_60 (by decide) ?_ ?_
              · skip
                exact g_sub _ [0, 1, 2, 3, 4, 5, 7] rfl (hJ67 u18)
              · skip
                refine g_iconst C 63 1 dX6_leftAtTheWorst_63 rfl ?_
                refine g_goto C 64 68 dX6_leftAtTheWorst_64 (by decide) ?_
                exact g_sub _ [0, 1, 2, 3, 4, 5, 7] rfl (hJ68 1 u18)
def jX6_ask_85 (F : Nat) (p2 : Int32) (a9 : Int32) (a10 : Int32) (u11 : St) : Option (Int32 × St) :=
  if a10 = (-4) then some (a10, u11) else if p2 = 0 then some (a10, u11) else some (a9, u11)
def bX6_ask_42 (F : Nat) (p1 : Int32) (r6 : Int32) (J85 : Int32 → Int32 → St → Option (Int32 × St)) (self16 : Int32 → Int32 → Int32 → St → Option (Int32 × St)) (x12 : Int32) (x13 : Int32) (x14 : Int32) (u15 : St) : Option (Int32 × St) :=
  if (u15.1 0) ≤ x14 then (J85 x12 x13 u15) else bd (pX6_leftAtTheWorst F x14 p1 r6 u15) (fun (r18 : Int32) (u17 : St) => jn (fun (a19 : Int32) (a20 : Int32) (u21 : St) => (self16 a19 a20 (x14 + 1) u21)) (fun (J79 : Int32 → Int32 → St → Option (Int32 × St)) => if x12 ≤ r18 then (J79 x12 x13 u17) else (J79 r18 x14 u17)))
def pX6_ask (F : Nat) (p1 : Int32) (p2 : Int32) (u : St) : Option (Int32 × St) :=
  bd (pX0_hasJudge F 0 p1 u) (fun (r2 : Int32) (u1 : St) => if r2 = 0 then some ((-1), u1) else bd (pX6_isIn F (Int32.toInt64 p2) 0 1 u1) (fun (r4 : Int32) (u3 : St) => if r4 = 0 then some ((-1), u3) else bd (pX6_habitsAsSeen F p1 u3) (fun (r6 : Int32) (u5 : St) => bd (pJ6_bitCount_0f7a4 F r6 u5) (fun (r8 : Int32) (u7 : St) => jn (jX6_ask_85 F p2) (fun (J85 : Int32 → Int32 → St → Option (Int32 × St)) => (lq3 (bX6_ask_42 F p1 r6 J85) F r8 (-4) 0 u7))))))
set_option maxRecDepth 100000 in
set_option maxHeartbeats 4000000 in
theorem tX6_ask {l : Launch} {D : va_G} {cI cZ : ClassId} {ad : Nat → Nat} {tBURNS tFLAME_BOUNDS : Nat} {tS : Option Nat} {adK adV : Nat → Nat} (F : Nat) (p1 : Int32) (p2 : Int32) (u : St) : CtI l D [(cI, .int), (cZ, .boolean)] (wX ad cI cZ) (EX tBURNS tFLAME_BOUNDS tS adK adV) yX6_ask wsX6_ask ({ frames := 5, cells := 0, slots := 0, locals := 112 } : Room) [.ref (ad 0), .int p1, .int p2] u (pX6_ask F p1 p2 u) := by
  refine ctI_of (own := RX6) (cc := cX6_ask) (n := 8) (ret := (some .int)) (by decide) rfl rfl (Nat.le_of_ble_eq_true rfl) (lv := [(0, .ref (ad 0)), (1, .int p1), (2, .int p2)]) rfl (fun C => ?_)
  have iX0 : ∀ w ∈ wsX00, w ∈ wsX6_ask := fun w h => List.mem_cons_of_mem _ (List.mem_append_right _ (inlX0 w h))
  have iX6 : ∀ w ∈ wsX60, w ∈ wsX6_ask := fun w h => List.mem_cons_of_mem _ (List.mem_append_right _ (inlX6 w h))
  rw [pX6_ask]
  refine g_aload_n C 0 0 dX6_ask_0 rfl ?_
  refine gfX_X6_court C 1 iX6 (List.mem_cons_of_mem _ (List.mem_append_right _ wgL_1_15.1)) dX6_ask_1 ?_
  refine g_iload_n C 4 1 dX6_ask_4 rfl ?_
  refine g_callVi (st := []) (As := [.int p1]) C EX_ok EX_vm 5 1 1 (tX0_hasJudge F 0 (by decide) p1 u) rfl gX6_ask_X0_hasJudge rfl rfl rfl (by decide +kernel) ⟨Nat.le_of_ble_eq_true rfl, Nat.le_of_ble_eq_true rfl⟩ (wX_X0 ad cI cZ _ 0 (by decide)) rfl rfl (Nat.le_of_ble_eq_true rfl) dX6_ask_5 (fun r2 u1 => ?_)
  refine g_if_eq C 8 21 dX6_ask_8 (by decide) ?_ ?_
  · skip
    refine g_iconst C 21 (-1) dX6_ask_21 rfl ?_
    exact g_iret C 22 dX6_ask_22
  · skip
    refine g_iload_n C 11 2 dX6_ask_11 rfl ?_
    refine g_i2l C 12 dX6_ask_12 ?_
    refine g_iconst C 13 0 dX6_ask_13 rfl ?_
    refine g_iconst C 14 1 dX6_ask_14 rfl ?_
    refine g_callSi (st := []) (As := [.long (Int32.toInt64 p2), .int 0, .int 1]) C EX_ok EX_vm 15 3 (tX6_isIn F (Int32.toInt64 p2) 0 1 u1) rfl gX6_ask_X6_isIn rfl rfl rfl (by decide +kernel) ⟨Nat.le_of_ble_eq_true rfl, Nat.le_of_ble_eq_true rfl⟩ rfl (Nat.le_of_ble_eq_true rfl) dX6_ask_15 (fun r4 u3 => ?_)
    refine g_if_ne C 18 23 dX6_ask_18 (by decide) ?_ ?_
    · skip
      refine g_aload_n C 23 0 dX6_ask_23 rfl ?_
      refine g_iload_n C 24 1 dX6_ask_24 rfl ?_
      refine g_callVi (st := []) (As := [.int p1]) C EX_ok EX_vm 25 0 1 (tX6_habitsAsSeen F p1 u3) rfl gX6_ask_X6_habitsAsSeen rfl rfl rfl (by decide +kernel) ⟨Nat.le_of_ble_eq_true rfl, Nat.le_of_ble_eq_true rfl⟩ rfl rfl rfl (Nat.le_of_ble_eq_true rfl) dX6_ask_25 (fun r6 u5 => ?_)
      refine g_istore_n C 28 [(3, .int r6), (0, .ref (ad 0)), (1, .int p1), (2, .int p2)] dX6_ask_28 (by decide) rfl ?_
      refine g_iload_n C 29 0 dX6_ask_29 rfl ?_
      refine g_callSi (st := []) (As := [.int r6]) C EX_ok EX_vm 30 1 (tJ6_bitCount_0f7a4 F r6 u5) rfl gX6_ask_J6_bitCount_0f7a4 rfl rfl rfl (by decide +kernel) ⟨Nat.le_of_ble_eq_true rfl, Nat.le_of_ble_eq_true rfl⟩ rfl (Nat.le_of_ble_eq_true rfl) dX6_ask_30 (fun r8 u7 => ?_)
      refine g_istore C 33 [(4, .int r8), (3, .int r6), (0, .ref (ad 0)), (1, .int p1), (2, .int p2)] dX6_ask_33 (by decide) rfl ?_
      refine g_bipush C 35 (-4) dX6_ask_35 rfl ?_
      refine g_istore C 37 [(5, .int (-4)), (4, .int r8), (3, .int r6), (0, .ref (ad 0)), (1, .int p1), (2, .int p2)] dX6_ask_37 (by decide) rfl ?_
      refine g_iconst C 39 0 dX6_ask_39 rfl ?_
      refine g_istore C 40 [(6, .int 0), (5, .int (-4)), (4, .int r8), (3, .int r6), (0, .ref (ad 0)), (1, .int p1), (2, .int p2)] dX6_ask_40 (by decide) rfl ?_
      refine g_jn2 85 (fun (a9 : Int32) (a10 : Int32) => [(2, .int p2), (4, .int a9), (5, .int a10)]) (fun (a9 : Int32) (a10 : Int32) => []) (fun a9 a10 u11 => ?_) (fun J85 hJ85 => ?_)
      · skip
        rw [jX6_ask_85]
        refine g_iload C 85 2 dX6_ask_85 rfl ?_
        refine g_bipush C 87 (-4) dX6_ask_87 rfl ?_
        refine g_icmp_eq C 89 96 dX6_ask_89 (by decide) ?_ ?_
        · skip
          refine g_iload C 96 2 dX6_ask_96 rfl ?_
          refine g_goto C 98 103 dX6_ask_98 (by decide) ?_
          exact g_iret C 103 dX6_ask_103
        · skip
          refine g_iload_n C 92 0 dX6_ask_92 rfl ?_
          refine g_if_ne C 93 101 dX6_ask_93 (by decide) ?_ ?_
          · skip
            refine g_iload C 101 1 dX6_ask_101 rfl ?_
            exact g_iret C 103 dX6_ask_103
          · skip
            refine g_iload C 96 2 dX6_ask_96 rfl ?_
            refine g_goto C 98 103 dX6_ask_98 (by decide) ?_
            exact g_iret C 103 dX6_ask_103
      · skip
        refine g_sub _ [4, 5, 6, 3, 2, 1, 0] rfl ?_
        refine g_lq3 (fun (x12 : Int32) (x13 : Int32) (x14 : Int32) => [(0, .ref (ad 0)), (1, .int p1), (2, .int p2), (3, .int r6), (4, .int x12), (5, .int x13), (6, .int x14)]) (fun self16 hself16 x12 x13 x14 u15 => ?_) F r8 (-4) 0 u7
        rw [bX6_ask_42]
        refine g_iload C 42 6 dX6_ask_42 rfl ?_
        refine g_aload_n C 44 0 dX6_ask_44 rfl ?_
        refine gfX_X6_court C 45 iX6 (List.mem_cons_of_mem _ (List.mem_append_right _ wgL_1_15.1)) dX6_ask_45 ?_
        refine gfX_X0_cases 0 (by decide) C 48 iX0 (List.mem_cons_of_mem _ (List.mem_append_right _ wgL_18_5.1)) dX6_ask_48 ?_
        refine g_icmp_ge C 51 85 dX6_ask_51 (by decide) ?_ ?_
        · skip
          exact g_sub _ [2, 4, 5] rfl (hJ85 x12 x13 u15)
        · skip
          refine g_aload_n C 54 0 dX6_ask_54 rfl ?_
          refine g_iload C 55 6 dX6_ask_55 rfl ?_
          refine g_iload_n C 57 1 dX6_ask_57 rfl ?_
          refine g_iload_n C 58 3 dX6_ask_58 rfl ?_
          refine g_callVi (st := []) (As := [.int x14, .int p1, .int r6]) C EX_ok EX_vm 59 0 3 (tX6_leftAtTheWorst F x14 p1 r6 u15) rfl gX6_ask_X6_leftAtTheWorst rfl rfl rfl (by decide +kernel) ⟨Nat.le_of_ble_eq_true rfl, Nat.le_of_ble_eq_true rfl⟩ rfl rfl rfl (Nat.le_of_ble_eq_true rfl) dX6_ask_59 (fun r18 u17 => ?_)
          refine g_istore C 62 [(7, .int r18), (0, .ref (ad 0)), (1, .int p1), (2, .int p2), (3, .int r6), (4, .int x12), (5, .int x13), (6, .int x14)] dX6_ask_62 (by decide) rfl ?_
          refine g_iload C 64 0 dX6_ask_64 rfl ?_
          refine g_iload C 66 5 dX6_ask_66 rfl ?_
          refine g_jn2 79 (fun (a19 : Int32) (a20 : Int32) => [(0, .ref (ad 0)), (1, .int p1), (2, .int p2), (3, .int r6), (4, .int a19), (5, .int a20), (6, .int x14)]) (fun (a19 : Int32) (a20 : Int32) => []) (fun a19 a20 u21 => ?_) (fun J79 hJ79 => ?_)
          · skip
            refine g_iinc C 79 6 [(6, .int (x14 + 1)), (0, .ref (ad 0)), (1, .int p1), (2, .int p2), (3, .int r6), (4, .int a19), (5, .int a20)] dX6_ask_79 rfl rfl (by decide) rfl ?_
            refine g_goto C 82 42 dX6_ask_82 (by decide) ?_
            exact g_sub _ [1, 2, 3, 4, 5, 6, 0] rfl (hself16 a19 a20 (x14 + 1) u21)
          · skip
            refine g_icmp_ge C 68 79 dX6_ask_68 (by decide) ?_ ?_
            · skip
              exact g_sub _ [1, 2, 3, 4, 5, 6, 7] rfl (hJ79 x12 x13 u17)
            · skip
              refine g_iload C 71 0 dX6_ask_71 rfl ?_
              refine g_istore C 73 [(4, .int r18), (7, .int r18), (0, .ref (ad 0)), (1, .int p1), (2, .int p2), (3, .int r6), (5, .int x13), (6, .int x14)] dX6_ask_73 (by decide) rfl ?_
              refine g_iload C 75 7 dX6_ask_75 rfl ?_
              refine g_istore C 77 [(5, .int x14), (4, .int r18), (7, .int r18), (0, .ref (ad 0)), (1, .int p1), (2, .int p2), (3, .int r6), (6, .int x14)] dX6_ask_77 (by decide) rfl ?_
              exact g_sub _ [3, 4, 5, 6, 1, 0, 7] rfl (hJ79 r18 x14 u17)
    · skip
      refine g_iconst C 21 (-1) dX6_ask_21 rfl ?_
      exact g_iret C 22 dX6_ask_22
def pX6_driftVerdict (F : Nat) (p1 : Int32) (u : St) : Option (Int32 × St) :=
  if (u.1 0) = 0 then some (0, u) else if (u.1 1) = 0 then some (0, u) else gd (nz (u.1 0)) (vl (irm p1 (u.1 0)) (fun v1 => gd (nz 8) (gd (nz 2) (gd (nz 16) (gd (nz 20) (gd (inb ((2 * v1) + (irm (p1 / 8) 2)) 8) (vl (sta u 53 ((2 * v1) + (irm (p1 / 8) 2)) (irm (p1 / 16) 20)) (fun (u2 : St) => gd (nz 512) (gd (nz (u2.1 1)) (bd (pX6_prepare F v1 (irm (p1 / 512) (u2.1 1)) 0 u2) (fun (_ : Unit) (u3 : St) => gd (inb (2 * v1) 8) (bd (pX5_change F 0 1 (u3.2 53 (Int32.toNatClampNeg (2 * v1))) u3) (fun (_ : Unit) (u4 : St) => gd (inb ((2 * v1) + 1) 8) (bd (pX5_change F 1 1 (u4.2 53 (Int32.toNatClampNeg ((2 * v1) + 1))) u4) (fun (_ : Unit) (u5 : St) => bd (pX5_verdictHeld F u5) (fun (r7 : Int32) (u6 : St) => gd (inb 0 2) (gd (inb (2 * v1) 8) (vl (sta u6 53 (2 * v1) (u6.2 56 (Int32.toNatClampNeg 0))) (fun (u8 : St) => gd (inb 1 2) (gd (inb ((2 * v1) + 1) 8) (vl (sta u8 53 ((2 * v1) + 1) (u8.2 56 (Int32.toNatClampNeg 1))) (fun (u9 : St) => some (r7, u9)))))))))))))))))))))))
set_option maxRecDepth 100000 in
set_option maxHeartbeats 4000000 in
theorem tX6_driftVerdict {l : Launch} {D : va_G} {cI cZ : ClassId} {ad : Nat → Nat} {tBURNS tFLAME_BOUNDS : Nat} {tS : Option Nat} {adK adV : Nat → Nat} (F : Nat) (p1 : Int32) (u : St) : CtI l D [(cI, .int), (cZ, .boolean)] (wX ad cI cZ) (EX tBURNS tFLAME_BOUNDS tS adK adV) yX6_driftVerdict wsX6_driftVerdict ({ frames := 4, cells := 0, slots := 0, locals := 85 } : Room) [.ref (ad 0), .int p1] u (pX6_driftVerdict F p1 u) := by
  refine ctI_of (own := RX6) (cc := cX6_driftVerdict) (n := 4) (ret := (some .int)) (by decide) rfl rfl (Nat.le_of_ble_eq_true rfl) (lv := [(0, .ref (ad 0)), (1, .int p1)]) rfl (fun C => ?_)
  have iX0 : ∀ w ∈ wsX00, w ∈ wsX6_driftVerdict := fun w h => List.mem_cons_of_mem _ (List.mem_append_right _ (inlX0 w h))
  have iX5 : ∀ w ∈ wsX50, w ∈ wsX6_driftVerdict := fun w h => List.mem_cons_of_mem _ (List.mem_append_right _ (inlX5 w h))
  have iX6 : ∀ w ∈ wsX60, w ∈ wsX6_driftVerdict := fun w h => List.mem_cons_of_mem _ (List.mem_append_right _ (inlX6 w h))
  rw [pX6_driftVerdict]
  refine g_aload_n C 0 0 dX6_driftVerdict_0 rfl ?_
  refine gfX_X6_court C 1 iX6 (List.mem_cons_of_mem _ (List.mem_append_right _ wgL_1_15.1)) dX6_driftVerdict_1 ?_
  refine gfX_X0_cases 0 (by decide) C 4 iX0 (List.mem_cons_of_mem _ (List.mem_append_right _ wgL_18_5.1)) dX6_driftVerdict_4 ?_
  refine g_if_eq C 7 20 dX6_driftVerdict_7 (by decide) ?_ ?_
  · skip
    refine g_iconst C 20 0 dX6_driftVerdict_20 rfl ?_
    exact g_iret C 21 dX6_driftVerdict_21
  · skip
    refine g_aload_n C 10 0 dX6_driftVerdict_10 rfl ?_
    refine gfX_X6_court C 11 iX6 (List.mem_cons_of_mem _ (List.mem_append_right _ wgL_1_15.1)) dX6_driftVerdict_11 ?_
    refine gfX_X0_judges 0 (by decide) C 14 iX0 (List.mem_cons_of_mem _ (List.mem_append_right _ wgL_18_6.1)) dX6_driftVerdict_14 ?_
    refine g_if_ne C 17 22 dX6_driftVerdict_17 (by decide) ?_ ?_
    · skip
      refine g_iload_n C 22 1 dX6_driftVerdict_22 rfl ?_
      refine g_aload_n C 23 0 dX6_driftVerdict_23 rfl ?_
      refine gfX_X6_court C 24 iX6 (List.mem_cons_of_mem _ (List.mem_append_right _ wgL_1_15.1)) dX6_driftVerdict_24 ?_
      refine gfX_X0_cases 0 (by decide) C 27 iX0 (List.mem_cons_of_mem _ (List.mem_append_right _ wgL_18_5.1)) dX6_driftVerdict_27 ?_
      refine g_irem C 30 dX6_driftVerdict_30 ?_
      refine g_istore_nV C 31 (fun v1 => [(2, .int v1), (0, .ref (ad 0)), (1, .int p1)]) dX6_driftVerdict_31 (by decide) (fun _ => rfl) (fun v1 => ?_)
      refine g_aload_n C 32 1 dX6_driftVerdict_32 rfl ?_
      refine gfX_X6_driftLengths C 33 iX6 (List.mem_cons_of_mem _ (List.mem_append_right _ wgL_2_18.1)) dX6_driftVerdict_33 ?_
      refine g_iconst C 36 2 dX6_driftVerdict_36 rfl ?_
      refine g_iload_n C 37 0 dX6_driftVerdict_37 rfl ?_
      refine g_imul C 38 dX6_driftVerdict_38 ?_
      refine g_iload_n C 39 2 dX6_driftVerdict_39 rfl ?_
      refine g_bipush C 40 8 dX6_driftVerdict_40 rfl ?_
      refine g_idiv C 42 dX6_driftVerdict_42 ?_
      refine g_iconst C 43 2 dX6_driftVerdict_43 rfl ?_
      refine g_irem C 44 dX6_driftVerdict_44 ?_
      refine g_iadd C 45 dX6_driftVerdict_45 ?_
      refine g_iload_n C 46 2 dX6_driftVerdict_46 rfl ?_
      refine g_bipush C 47 16 dX6_driftVerdict_47 rfl ?_
      refine g_idiv C 49 dX6_driftVerdict_49 ?_
      refine g_bipush C 50 20 dX6_driftVerdict_50 rfl ?_
      refine g_irem C 52 dX6_driftVerdict_52 ?_
      refine g_iast C 53 (10 + 53) 0 53 (wX_arr 53 (by decide)) (wX_aset 53 (by decide)) rfl dX6_driftVerdict_53 (fun u2 => ?_)
      refine g_aload_n C 54 1 dX6_driftVerdict_54 rfl ?_
      refine g_iload_n C 55 0 dX6_driftVerdict_55 rfl ?_
      refine g_iload_n C 56 2 dX6_driftVerdict_56 rfl ?_
      refine g_sipush C 57 512 dX6_driftVerdict_57 rfl ?_
      refine g_idiv C 60 dX6_driftVerdict_60 ?_
      refine g_aload_n C 61 1 dX6_driftVerdict_61 rfl ?_
      refine gfX_X6_court C 62 iX6 (List.mem_cons_of_mem _ (List.mem_append_right _ wgL_1_15.1)) dX6_driftVerdict_62 ?_
      refine gfX_X0_judges 0 (by decide) C 65 iX0 (List.mem_cons_of_mem _ (List.mem_append_right _ wgL_18_6.1)) dX6_driftVerdict_65 ?_
      refine g_irem C 68 dX6_driftVerdict_68 ?_
      refine g_iconst C 69 0 dX6_driftVerdict_69 rfl ?_
      refine g_callVv (st := []) (As := [.int v1, .int (irm (p1 / 512) (u2.1 1)), .int 0]) C EX_ok EX_vm 70 0 3 (tX6_prepare F v1 (irm (p1 / 512) (u2.1 1)) 0 u2) rfl gX6_driftVerdict_X6_prepare rfl rfl rfl (by decide +kernel) ⟨Nat.le_of_ble_eq_true rfl, Nat.le_of_ble_eq_true rfl⟩ rfl rfl rfl (Nat.le_of_ble_eq_true rfl) dX6_driftVerdict_70 (fun u3 => ?_)
      refine g_aload_n C 73 1 dX6_driftVerdict_73 rfl ?_
      refine gfX_X6_trial C 74 iX6 (List.mem_cons_of_mem _ (List.mem_append_right _ wgL_2_3.1)) dX6_driftVerdict_74 ?_
      refine g_iconst C 77 0 dX6_driftVerdict_77 rfl ?_
      refine g_iconst C 78 1 dX6_driftVerdict_78 rfl ?_
      refine g_aload_n C 79 1 dX6_driftVerdict_79 rfl ?_
      refine gfX_X6_driftLengths C 80 iX6 (List.mem_cons_of_mem _ (List.mem_append_right _ wgL_2_18.1)) dX6_driftVerdict_80 ?_
      refine g_iconst C 83 2 dX6_driftVerdict_83 rfl ?_
      refine g_iload_n C 84 0 dX6_driftVerdict_84 rfl ?_
      refine g_imul C 85 dX6_driftVerdict_85 ?_
      refine g_iald C 86 (10 + 53) 0 (wX_arr 53 (by decide)) rfl dX6_driftVerdict_86 ?_
      refine g_callVv (st := []) (As := [.int 0, .int 1, .int (u3.2 53 (Int32.toNatClampNeg (2 * v1)))]) C EX_ok EX_vm 87 6 3 (tX5_change F 0 1 (u3.2 53 (Int32.toNatClampNeg (2 * v1))) u3) rfl gX6_driftVerdict_X5_change rfl rfl rfl (by decide +kernel) ⟨Nat.le_of_ble_eq_true rfl, Nat.le_of_ble_eq_true rfl⟩ rfl rfl rfl (Nat.le_of_ble_eq_true rfl) dX6_driftVerdict_87 (fun u4 => ?_)
      refine g_aload_n C 90 1 dX6_driftVerdict_90 rfl ?_
      refine gfX_X6_trial C 91 iX6 (List.mem_cons_of_mem _ (List.mem_append_right _ wgL_2_3.1)) dX6_driftVerdict_91 ?_
      refine g_iconst C 94 1 dX6_driftVerdict_94 rfl ?_
      refine g_iconst C 95 1 dX6_driftVerdict_95 rfl ?_
      refine g_aload_n C 96 1 dX6_driftVerdict_96 rfl ?_
      refine gfX_X6_driftLengths C 97 iX6 (List.mem_cons_of_mem _ (List.mem_append_right _ wgL_2_18.1)) dX6_driftVerdict_97 ?_
      refine g_iconst C 100 2 dX6_driftVerdict_100 rfl ?_
      refine g_iload_n C 101 0 dX6_driftVerdict_101 rfl ?_
      refine g_imul C 102 dX6_driftVerdict_102 ?_
      refine g_iconst C 103 1 dX6_driftVerdict_103 rfl ?_
      refine g_iadd C 104 dX6_driftVerdict_104 ?_
      refine g_iald C 105 (10 + 53) 0 (wX_arr 53 (by decide)) rfl dX6_driftVerdict_105 ?_
      refine g_callVv (st := []) (As := [.int 1, .int 1, .int (u4.2 53 (Int32.toNatClampNeg ((2 * v1) + 1)))]) C EX_ok EX_vm 106 6 3 (tX5_change F 1 1 (u4.2 53 (Int32.toNatClampNeg ((2 * v1) + 1))) u4) rfl gX6_driftVerdict_X5_change rfl rfl rfl (by decide +kernel) ⟨Nat.le_of_ble_eq_true rfl, Nat.le_of_ble_eq_true rfl⟩ rfl rfl rfl (Nat.le_of_ble_eq_true rfl) dX6_driftVerdict_106 (fun u5 => ?_)
      refine g_aload_n C 109 1 dX6_driftVerdict_109 rfl ?_
      refine gfX_X6_trial C 110 iX6 (List.mem_cons_of_mem _ (List.mem_append_right _ wgL_2_3.1)) dX6_driftVerdict_110 ?_
      refine g_callVi (st := []) (As := []) C EX_ok EX_vm 113 6 0 (tX5_verdictHeld F u5) rfl gX6_driftVerdict_X5_verdictHeld rfl rfl rfl (by decide +kernel) ⟨Nat.le_of_ble_eq_true rfl, Nat.le_of_ble_eq_true rfl⟩ rfl rfl rfl (Nat.le_of_ble_eq_true rfl) dX6_driftVerdict_113 (fun r7 u6 => ?_)
      refine g_istore_n C 116 [(3, .int r7), (2, .int v1), (0, .ref (ad 0)), (1, .int p1)] dX6_driftVerdict_116 (by decide) rfl ?_
      refine g_aload_n C 117 2 dX6_driftVerdict_117 rfl ?_
      refine gfX_X6_driftLengths C 118 iX6 (List.mem_cons_of_mem _ (List.mem_append_right _ wgL_2_18.1)) dX6_driftVerdict_118 ?_
      refine g_iconst C 121 2 dX6_driftVerdict_121 rfl ?_
      refine g_iload_n C 122 1 dX6_driftVerdict_122 rfl ?_
      refine g_imul C 123 dX6_driftVerdict_123 ?_
      refine g_aload_n C 124 2 dX6_driftVerdict_124 rfl ?_
      refine gfX_X6_trial C 125 iX6 (List.mem_cons_of_mem _ (List.mem_append_right _ wgL_2_3.1)) dX6_driftVerdict_125 ?_
      refine gfX_X5_length C 128 iX5 (List.mem_cons_of_mem _ (List.mem_append_right _ wgL_25_3.1)) dX6_driftVerdict_128 ?_
      refine g_iconst C 131 0 dX6_driftVerdict_131 rfl ?_
      refine g_iald C 132 (10 + 56) 0 (wX_arr 56 (by decide)) rfl dX6_driftVerdict_132 ?_
      refine g_iast C 133 (10 + 53) 0 53 (wX_arr 53 (by decide)) (wX_aset 53 (by decide)) rfl dX6_driftVerdict_133 (fun u8 => ?_)
      refine g_aload_n C 134 2 dX6_driftVerdict_134 rfl ?_
      refine gfX_X6_driftLengths C 135 iX6 (List.mem_cons_of_mem _ (List.mem_append_right _ wgL_2_18.1)) dX6_driftVerdict_135 ?_
      refine g_iconst C 138 2 dX6_driftVerdict_138 rfl ?_
      refine g_iload_n C 139 1 dX6_driftVerdict_139 rfl ?_
      refine g_imul C 140 dX6_driftVerdict_140 ?_
      refine g_iconst C 141 1 dX6_driftVerdict_141 rfl ?_
      refine g_iadd C 142 dX6_driftVerdict_142 ?_
      refine g_aload_n C 143 2 dX6_driftVerdict_143 rfl ?_
      refine gfX_X6_trial C 144 iX6 (List.mem_cons_of_mem _ (List.mem_append_right _ wgL_2_3.1)) dX6_driftVerdict_144 ?_
      refine gfX_X5_length C 147 iX5 (List.mem_cons_of_mem _ (List.mem_append_right _ wgL_25_3.1)) dX6_driftVerdict_147 ?_
      refine g_iconst C 150 1 dX6_driftVerdict_150 rfl ?_
      refine g_iald C 151 (10 + 56) 0 (wX_arr 56 (by decide)) rfl dX6_driftVerdict_151 ?_
      refine g_iast C 152 (10 + 53) 0 53 (wX_arr 53 (by decide)) (wX_aset 53 (by decide)) rfl dX6_driftVerdict_152 (fun u9 => ?_)
      refine g_iload_n C 153 0 dX6_driftVerdict_153 rfl ?_
      exact g_iret C 154 dX6_driftVerdict_154
    · skip
      refine g_iconst C 20 0 dX6_driftVerdict_20 rfl ?_
      exact g_iret C 21 dX6_driftVerdict_21
def jX6_drift_120 (F : Nat) (p3 : Int32) (a6 : Int32) (u7 : St) : Option (Int32 × St) :=
  if p3 = 0 then some (a6, u7) else bd (pX0_sumOf F 0 53 u7) (fun (r9 : Int32) (u8 : St) => some (r9, u8))
def bX6_drift_69 (F : Nat) (p2 : Int32) (J120 : Int32 → St → Option (Int32 × St)) (self14 : Int32 → Int32 → Int32 → St → Option (Int32 × St)) (x10 : Int32) (x11 : Int32) (x12 : Int32) (u13 : St) : Option (Int32 × St) :=
  if p2 ≤ x12 then (J120 x10 u13) else vl ((x11 * 1103515245) + 12345) (fun v15 => bd (pX6_driftVerdict F ((ushr v15 16) &&& 32767) u13) (fun (r17 : Int32) (u16 : St) => jn (fun (a18 : Int32) (u19 : St) => vl (x10 + a18) (fun v20 => (self14 v20 v15 (x12 + 1) u19))) (fun (J111 : Int32 → St → Option (Int32 × St)) => if r17 = 1 then (J111 1 u16) else (J111 0 u16))))
def pX6_drift (F : Nat) (p1 : Int32) (p2 : Int32) (p3 : Int32) (u : St) : Option (Int32 × St) :=
  bd (pX6_isIn F (Int32.toInt64 p2) 1 60 u) (fun (r2 : Int32) (u1 : St) => if r2 = 0 then some ((-1), u1) else bd (pX6_isIn F (Int32.toInt64 p3) 0 1 u1) (fun (r4 : Int32) (u3 : St) => if r4 = 0 then some ((-1), u3) else if (u3.1 0) = 0 then some ((-2), u3) else if (u3.1 1) = 0 then some ((-2), u3) else bd (pX6_copyRow F 1 53 u3) (fun (_ : Unit) (u5 : St) => jn (jX6_drift_120 F p3) (fun (J120 : Int32 → St → Option (Int32 × St)) => (lq3 (bX6_drift_69 F p2 J120) F 0 p1 0 u5)))))
set_option maxRecDepth 100000 in
set_option maxHeartbeats 4000000 in
theorem tX6_drift {l : Launch} {D : va_G} {cI cZ : ClassId} {ad : Nat → Nat} {tBURNS tFLAME_BOUNDS : Nat} {tS : Option Nat} {adK adV : Nat → Nat} (F : Nat) (p1 : Int32) (p2 : Int32) (p3 : Int32) (u : St) : CtI l D [(cI, .int), (cZ, .boolean)] (wX ad cI cZ) (EX tBURNS tFLAME_BOUNDS tS adK adV) yX6_drift wsX6_drift ({ frames := 5, cells := 0, slots := 0, locals := 108 } : Room) [.ref (ad 0), .int p1, .int p2, .int p3] u (pX6_drift F p1 p2 p3 u) := by
  refine ctI_of (own := RX6) (cc := cX6_drift) (n := 7) (ret := (some .int)) (by decide) rfl rfl (Nat.le_of_ble_eq_true rfl) (lv := [(0, .ref (ad 0)), (1, .int p1), (2, .int p2), (3, .int p3)]) rfl (fun C => ?_)
  have iX0 : ∀ w ∈ wsX00, w ∈ wsX6_drift := fun w h => List.mem_cons_of_mem _ (List.mem_append_right _ (inlX0 w h))
  have iX6 : ∀ w ∈ wsX60, w ∈ wsX6_drift := fun w h => List.mem_cons_of_mem _ (List.mem_append_right _ (inlX6 w h))
  rw [pX6_drift]
  refine g_iload_n C 0 2 dX6_drift_0 rfl ?_
  refine g_i2l C 1 dX6_drift_1 ?_
  refine g_iconst C 2 1 dX6_drift_2 rfl ?_
  refine g_bipush C 3 60 dX6_drift_3 rfl ?_
  refine g_callSi (st := []) (As := [.long (Int32.toInt64 p2), .int 1, .int 60]) C EX_ok EX_vm 5 3 (tX6_isIn F (Int32.toInt64 p2) 1 60 u) rfl gX6_drift_X6_isIn rfl rfl rfl (by decide +kernel) ⟨Nat.le_of_ble_eq_true rfl, Nat.le_of_ble_eq_true rfl⟩ rfl (Nat.le_of_ble_eq_true rfl) dX6_drift_5 (fun r2 u1 => ?_)
  refine g_if_eq C 8 21 dX6_drift_8 (by decide) ?_ ?_
  · skip
    refine g_iconst C 21 (-1) dX6_drift_21 rfl ?_
    exact g_iret C 22 dX6_drift_22
  · skip
    refine g_iload_n C 11 3 dX6_drift_11 rfl ?_
    refine g_i2l C 12 dX6_drift_12 ?_
    refine g_iconst C 13 0 dX6_drift_13 rfl ?_
    refine g_iconst C 14 1 dX6_drift_14 rfl ?_
    refine g_callSi (st := []) (As := [.long (Int32.toInt64 p3), .int 0, .int 1]) C EX_ok EX_vm 15 3 (tX6_isIn F (Int32.toInt64 p3) 0 1 u1) rfl gX6_drift_X6_isIn rfl rfl rfl (by decide +kernel) ⟨Nat.le_of_ble_eq_true rfl, Nat.le_of_ble_eq_true rfl⟩ rfl (Nat.le_of_ble_eq_true rfl) dX6_drift_15 (fun r4 u3 => ?_)
    refine g_if_ne C 18 23 dX6_drift_18 (by decide) ?_ ?_
    · skip
      refine g_aload_n C 23 0 dX6_drift_23 rfl ?_
      refine gfX_X6_court C 24 iX6 (List.mem_cons_of_mem _ (List.mem_append_right _ wgL_1_15.1)) dX6_drift_24 ?_
      refine gfX_X0_cases 0 (by decide) C 27 iX0 (List.mem_cons_of_mem _ (List.mem_append_right _ wgL_18_5.1)) dX6_drift_27 ?_
      refine g_if_eq C 30 43 dX6_drift_30 (by decide) ?_ ?_
      · skip
        refine g_bipush C 43 (-2) dX6_drift_43 rfl ?_
        exact g_iret C 45 dX6_drift_45
      · skip
        refine g_aload_n C 33 0 dX6_drift_33 rfl ?_
        refine gfX_X6_court C 34 iX6 (List.mem_cons_of_mem _ (List.mem_append_right _ wgL_1_15.1)) dX6_drift_34 ?_
        refine gfX_X0_judges 0 (by decide) C 37 iX0 (List.mem_cons_of_mem _ (List.mem_append_right _ wgL_18_6.1)) dX6_drift_37 ?_
        refine g_if_ne C 40 46 dX6_drift_40 (by decide) ?_ ?_
        · skip
          refine g_aload_n C 46 0 dX6_drift_46 rfl ?_
          refine gfX_X6_court C 47 iX6 (List.mem_cons_of_mem _ (List.mem_append_right _ wgL_1_15.1)) dX6_drift_47 ?_
          refine gfX_X0_length 0 (by decide) C 50 iX0 (List.mem_cons_of_mem _ (List.mem_append_right _ wgL_18_10.1)) dX6_drift_50 ?_
          refine g_aload_n C 53 0 dX6_drift_53 rfl ?_
          refine gfX_X6_driftLengths C 54 iX6 (List.mem_cons_of_mem _ (List.mem_append_right _ wgL_2_18.1)) dX6_drift_54 ?_
          refine g_callSv (st := []) (As := [.ref (ad (10 + 1)), .ref (ad (10 + 53))]) C EX_ok EX_vm 57 2 (tX6_copyRow F 1 (by decide) 53 (by decide) u3) rfl gX6_drift_X6_copyRow rfl rfl rfl (by decide +kernel) ⟨Nat.le_of_ble_eq_true rfl, Nat.le_of_ble_eq_true rfl⟩ rfl (Nat.le_of_ble_eq_true rfl) dX6_drift_57 (fun u5 => ?_)
          refine g_iconst C 60 0 dX6_drift_60 rfl ?_
          refine g_istore C 61 [(4, .int 0), (0, .ref (ad 0)), (1, .int p1), (2, .int p2), (3, .int p3)] dX6_drift_61 (by decide) rfl ?_
          refine g_iload_n C 63 2 dX6_drift_63 rfl ?_
          refine g_istore C 64 [(5, .int p1), (4, .int 0), (0, .ref (ad 0)), (1, .int p1), (2, .int p2), (3, .int p3)] dX6_drift_64 (by decide) rfl ?_
          refine g_iconst C 66 0 dX6_drift_66 rfl ?_
          refine g_istore C 67 [(6, .int 0), (5, .int p1), (4, .int 0), (0, .ref (ad 0)), (1, .int p1), (2, .int p2), (3, .int p3)] dX6_drift_67 (by decide) rfl ?_
          refine g_jn1 120 (fun (a6 : Int32) => [(0, .ref (ad 0)), (3, .int p3), (4, .int a6)]) (fun (a6 : Int32) => []) (fun a6 u7 => ?_) (fun J120 hJ120 => ?_)
          · skip
            rw [jX6_drift_120]
            refine g_iload_n C 120 1 dX6_drift_120 rfl ?_
            refine g_if_ne C 121 129 dX6_drift_121 (by decide) ?_ ?_
            · skip
              refine g_aload_n C 129 0 dX6_drift_129 rfl ?_
              refine gfX_X6_court C 130 iX6 (List.mem_cons_of_mem _ (List.mem_append_right _ wgL_1_15.1)) dX6_drift_130 ?_
              refine g_aload_n C 133 0 dX6_drift_133 rfl ?_
              refine gfX_X6_driftLengths C 134 iX6 (List.mem_cons_of_mem _ (List.mem_append_right _ wgL_2_18.1)) dX6_drift_134 ?_
              refine g_callVi (st := []) (As := [.ref (ad (10 + 53))]) C EX_ok EX_vm 137 1 1 (tX0_sumOf F 0 (by decide) 53 (by decide) u7) rfl gX6_drift_X0_sumOf rfl rfl rfl (by decide +kernel) ⟨Nat.le_of_ble_eq_true rfl, Nat.le_of_ble_eq_true rfl⟩ (wX_X0 ad cI cZ _ 0 (by decide)) rfl rfl (Nat.le_of_ble_eq_true rfl) dX6_drift_137 (fun r9 u8 => ?_)
              exact g_iret C 140 dX6_drift_140
            · skip
              refine g_iload C 124 2 dX6_drift_124 rfl ?_
              refine g_goto C 126 140 dX6_drift_126 (by decide) ?_
              exact g_iret C 140 dX6_drift_140
          · skip
            refine g_sub _ [3, 5, 6, 2, 1, 0] rfl ?_
            refine g_lq3 (fun (x10 : Int32) (x11 : Int32) (x12 : Int32) => [(0, .ref (ad 0)), (2, .int p2), (3, .int p3), (4, .int x10), (5, .int x11), (6, .int x12)]) (fun self14 hself14 x10 x11 x12 u13 => ?_) F 0 p1 0 u5
            rw [bX6_drift_69]
            refine g_iload C 69 5 dX6_drift_69 rfl ?_
            refine g_iload_n C 71 1 dX6_drift_71 rfl ?_
            refine g_icmp_ge C 72 120 dX6_drift_72 (by decide) ?_ ?_
            · skip
              exact g_sub _ [0, 2, 3] rfl (hJ120 x10 u13)
            · skip
              refine g_iload C 75 4 dX6_drift_75 rfl ?_
              refine g_ldcw C 77 1103515245 (by decide +kernel) dX6_drift_77 ?_
              refine g_imul C 80 dX6_drift_80 ?_
              refine g_sipush C 81 12345 dX6_drift_81 rfl ?_
              refine g_iadd C 84 dX6_drift_84 ?_
              refine g_istoreV C 85 (fun v15 => [(5, .int v15), (0, .ref (ad 0)), (2, .int p2), (3, .int p3), (4, .int x10), (6, .int x12)]) dX6_drift_85 (by decide) (fun _ => rfl) (fun v15 => ?_)
              refine g_iload C 87 4 dX6_drift_87 rfl ?_
              refine g_aload_n C 89 1 dX6_drift_89 rfl ?_
              refine g_iload C 90 0 dX6_drift_90 rfl ?_
              refine g_bipush C 92 16 dX6_drift_92 rfl ?_
              refine g_iushr C 94 dX6_drift_94 ?_
              refine g_sipush C 95 32767 dX6_drift_95 rfl ?_
              refine g_iand C 98 dX6_drift_98 ?_
              refine g_callVi (st := [.int x10]) (As := [.int ((ushr v15 16) &&& 32767)]) C EX_ok EX_vm 99 0 1 (tX6_driftVerdict F ((ushr v15 16) &&& 32767) u13) rfl gX6_drift_X6_driftVerdict rfl rfl rfl (by decide +kernel) ⟨Nat.le_of_ble_eq_true rfl, Nat.le_of_ble_eq_true rfl⟩ rfl rfl rfl (Nat.le_of_ble_eq_true rfl) dX6_drift_99 (fun r17 u16 => ?_)
              refine g_iconst C 102 1 dX6_drift_102 rfl ?_
              refine g_jn1 111 (fun (a18 : Int32) => [(0, .ref (ad 0)), (2, .int p2), (3, .int p3), (5, .int v15), (6, .int x12)]) (fun (a18 : Int32) => [.int a18, .int x10]) (fun a18 u19 => ?_) (fun J111 hJ111 => ?_)
              · skip
                refine g_iadd C 111 dX6_drift_111 ?_
                refine g_istoreV C 112 (fun v20 => [(4, .int v20), (0, .ref (ad 0)), (2, .int p2), (3, .int p3), (5, .int v15), (6, .int x12)]) dX6_drift_112 (by decide) (fun _ => rfl) (fun v20 => ?_)
                refine g_iinc C 114 5 [(6, .int (x12 + 1)), (4, .int v20), (0, .ref (ad 0)), (2, .int p2), (3, .int p3), (5, .int v15)] dX6_drift_114 rfl rfl (by decide) rfl ?_
                refine g_goto C 117 69 dX6_drift_117 (by decide) ?_
                exact g_sub _ [2, 3, 4, 1, 5, 0] rfl (hself14 v20 v15 (x12 + 1) u19)
              · skip
                refine g_icmp_ne C 103 110 dX6_drift_103 (by decide) ?_ ?_
                · skip
                  refine g_iconst C 110 0 dX6_drift_110 rfl ?_
                  exact g_sub _ [1, 2, 3, 0, 5] rfl (hJ111 0 u16)
                · skip
                  refine g_iconst C 106 1 dX6_drift_106 rfl ?_
                  refine g_goto C 107 111 dX6_drift_107 (by decide) ?_
                  exact g_sub _ [1, 2, 3, 0, 5] rfl (hJ111 1 u16)
        · skip
          refine g_bipush C 43 (-2) dX6_drift_43 rfl ?_
          exact g_iret C 45 dX6_drift_45
    · skip
      refine g_iconst C 21 (-1) dX6_drift_21 rfl ?_
      exact g_iret C 22 dX6_drift_22
def pX6_imageOf (F : Nat) (p1 : Int32) (u : St) : Option (Nat × St) :=
  if p1 = 0 then some (1, u) else some (2, u)
set_option maxRecDepth 100000 in
set_option maxHeartbeats 4000000 in
theorem tX6_imageOf {l : Launch} {D : va_G} {cI cZ : ClassId} {ad : Nat → Nat} {tBURNS tFLAME_BOUNDS : Nat} {tS : Option Nat} {adK adV : Nat → Nat} (F : Nat) (p1 : Int32) (u : St) : CtR l D [(cI, .int), (cZ, .boolean)] (wX ad cI cZ) (EX tBURNS tFLAME_BOUNDS tS adK adV) (fun r => ad (1 + r)) yX6_imageOf wsX6_imageOf ({ frames := 0, cells := 0, slots := 0, locals := 0 } : Room) [.ref (ad 0), .int p1] u (pX6_imageOf F p1 u) := by
  refine ctR_of (own := RX6) (cc := cX6_imageOf) (n := 2) (ret := (some (.object "SnuffCourt$Court"))) (by decide) rfl rfl (Nat.le_of_ble_eq_true rfl) (lv := [(0, .ref (ad 0)), (1, .int p1)]) rfl (fun C => ?_)
  have iX6 : ∀ w ∈ wsX60, w ∈ wsX6_imageOf := fun w h => List.mem_cons_of_mem _ (List.mem_append_right _ (inlX6 w h))
  rw [pX6_imageOf]
  refine g_iload_n C 0 1 dX6_imageOf_0 rfl ?_
  refine g_if_ne C 1 11 dX6_imageOf_1 (by decide) ?_ ?_
  · skip
    refine g_aload_n C 11 0 dX6_imageOf_11 rfl ?_
    refine gfX_X6_secondImage C 12 iX6 (List.mem_cons_of_mem _ (List.mem_append_right _ wgL_1_17.1)) dX6_imageOf_12 ?_
    exact g_rret (ad := fun r => ad (1 + r)) C 15 2 dX6_imageOf_15
  · skip
    refine g_aload_n C 4 0 dX6_imageOf_4 rfl ?_
    refine gfX_X6_firstImage C 5 iX6 (List.mem_cons_of_mem _ (List.mem_append_right _ wgL_1_16.1)) dX6_imageOf_5 ?_
    refine g_goto C 8 15 dX6_imageOf_8 (by decide) ?_
    exact g_rret (ad := fun r => ad (1 + r)) C 15 1 dX6_imageOf_15
