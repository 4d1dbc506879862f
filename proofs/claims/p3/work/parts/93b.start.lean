def tmS (i : Nat) : Term := .string "SnuffCourt$Reader" (([72, 158, 160, 162, 164, 81, 86, 166, 168, 170, 172] : List Nat).getD i 0)
set_option maxRecDepth 100000 in
set_option maxHeartbeats 4000000 in
theorem sS_ex : ∀ i, i < 11 → Cond.exactly (tmS i) "java/lang/String" ∈ (flatC (Jvm.Cond.and given_1 narrow_1)) := by decide +kernel
set_option maxRecDepth 100000 in
set_option maxHeartbeats 4000000 in
theorem sS_co : ∀ i, i < 11 → Cond.eq (.field (tmS i) "java/lang/String" "coder" "B") (.int 0) ∈ (flatC (Jvm.Cond.and given_1 narrow_1)) := by decide +kernel
set_option maxRecDepth 100000 in
set_option maxHeartbeats 4000000 in
theorem sS_ar : ∀ i, i < 11 → Cond.arrayOf (.field (tmS i) "java/lang/String" "value" "[B") .byte ∈ (flatC (Jvm.Cond.and given_1 narrow_1)) := by decide +kernel
set_option maxRecDepth 100000 in
set_option maxHeartbeats 4000000 in
theorem sS_le : ∀ i, i < 11 → Cond.eq (.length (.field (tmS i) "java/lang/String" "value" "[B")) (.int (Int32.ofNat (lenS.getD i 0))) ∈ (flatC (Jvm.Cond.and given_1 narrow_1)) := by decide +kernel
set_option maxRecDepth 100000 in
set_option maxHeartbeats 4000000 in
theorem sS_el0 : ∀ j, j < 4 → Cond.eq (.elem (.field (tmS 0) "java/lang/String" "value" "[B") (.int (Int32.ofNat j))) (.int ((bytS.getD 0 []).getD j 0)) ∈ (flatC (Jvm.Cond.and given_1 narrow_1)) := by decide +kernel
set_option maxRecDepth 100000 in
set_option maxHeartbeats 4000000 in
theorem sS_el1 : ∀ j, j < 6 → Cond.eq (.elem (.field (tmS 1) "java/lang/String" "value" "[B") (.int (Int32.ofNat j))) (.int ((bytS.getD 1 []).getD j 0)) ∈ (flatC (Jvm.Cond.and given_1 narrow_1)) := by decide +kernel
set_option maxRecDepth 100000 in
set_option maxHeartbeats 4000000 in
theorem sS_el2 : ∀ j, j < 3 → Cond.eq (.elem (.field (tmS 2) "java/lang/String" "value" "[B") (.int (Int32.ofNat j))) (.int ((bytS.getD 2 []).getD j 0)) ∈ (flatC (Jvm.Cond.and given_1 narrow_1)) := by decide +kernel
set_option maxRecDepth 100000 in
set_option maxHeartbeats 4000000 in
theorem sS_el3 : ∀ j, j < 4 → Cond.eq (.elem (.field (tmS 3) "java/lang/String" "value" "[B") (.int (Int32.ofNat j))) (.int ((bytS.getD 3 []).getD j 0)) ∈ (flatC (Jvm.Cond.and given_1 narrow_1)) := by decide +kernel
set_option maxRecDepth 100000 in
set_option maxHeartbeats 4000000 in
theorem sS_el4 : ∀ j, j < 5 → Cond.eq (.elem (.field (tmS 4) "java/lang/String" "value" "[B") (.int (Int32.ofNat j))) (.int ((bytS.getD 4 []).getD j 0)) ∈ (flatC (Jvm.Cond.and given_1 narrow_1)) := by decide +kernel
set_option maxRecDepth 100000 in
set_option maxHeartbeats 4000000 in
theorem sS_el5 : ∀ j, j < 7 → Cond.eq (.elem (.field (tmS 5) "java/lang/String" "value" "[B") (.int (Int32.ofNat j))) (.int ((bytS.getD 5 []).getD j 0)) ∈ (flatC (Jvm.Cond.and given_1 narrow_1)) := by decide +kernel
set_option maxRecDepth 100000 in
set_option maxHeartbeats 4000000 in
theorem sS_el6 : ∀ j, j < 6 → Cond.eq (.elem (.field (tmS 6) "java/lang/String" "value" "[B") (.int (Int32.ofNat j))) (.int ((bytS.getD 6 []).getD j 0)) ∈ (flatC (Jvm.Cond.and given_1 narrow_1)) := by decide +kernel
set_option maxRecDepth 100000 in
set_option maxHeartbeats 4000000 in
theorem sS_el7 : ∀ j, j < 5 → Cond.eq (.elem (.field (tmS 7) "java/lang/String" "value" "[B") (.int (Int32.ofNat j))) (.int ((bytS.getD 7 []).getD j 0)) ∈ (flatC (Jvm.Cond.and given_1 narrow_1)) := by decide +kernel
set_option maxRecDepth 100000 in
set_option maxHeartbeats 4000000 in
theorem sS_el8 : ∀ j, j < 4 → Cond.eq (.elem (.field (tmS 8) "java/lang/String" "value" "[B") (.int (Int32.ofNat j))) (.int ((bytS.getD 8 []).getD j 0)) ∈ (flatC (Jvm.Cond.and given_1 narrow_1)) := by decide +kernel
set_option maxRecDepth 100000 in
set_option maxHeartbeats 4000000 in
theorem sS_el9 : ∀ j, j < 5 → Cond.eq (.elem (.field (tmS 9) "java/lang/String" "value" "[B") (.int (Int32.ofNat j))) (.int ((bytS.getD 9 []).getD j 0)) ∈ (flatC (Jvm.Cond.and given_1 narrow_1)) := by decide +kernel
set_option maxRecDepth 100000 in
set_option maxHeartbeats 4000000 in
theorem sS_el10 : ∀ j, j < 4 → Cond.eq (.elem (.field (tmS 10) "java/lang/String" "value" "[B") (.int (Int32.ofNat j))) (.int ((bytS.getD 10 []).getD j 0)) ∈ (flatC (Jvm.Cond.and given_1 narrow_1)) := by decide +kernel
theorem sS_el : ∀ i, i < 11 → ∀ j, j < lenS.getD i 0 → Cond.eq (.elem (.field (tmS i) "java/lang/String" "value" "[B") (.int (Int32.ofNat j))) (.int ((bytS.getD i []).getD j 0)) ∈ (flatC (Jvm.Cond.and given_1 narrow_1)) := fun i hi => match i, hi with
  | 0, _ => sS_el0
  | 1, _ => sS_el1
  | 2, _ => sS_el2
  | 3, _ => sS_el3
  | 4, _ => sS_el4
  | 5, _ => sS_el5
  | 6, _ => sS_el6
  | 7, _ => sS_el7
  | 8, _ => sS_el8
  | 9, _ => sS_el9
  | 10, _ => sS_el10
  | k + 11, h => absurd h (by omega)
set_option maxRecDepth 100000 in
set_option maxHeartbeats 4000000 in
theorem sS_ne0 : ∀ j, j < 11 → 0 ≠ j → Cond.not (Cond.eq (tmS 0) (tmS j)) ∈ (flatC (Jvm.Cond.and given_1 narrow_1)) ∨ Cond.not (Cond.eq (tmS j) (tmS 0)) ∈ (flatC (Jvm.Cond.and given_1 narrow_1)) := by decide +kernel
set_option maxRecDepth 100000 in
set_option maxHeartbeats 4000000 in
theorem sS_ne1 : ∀ j, j < 11 → 1 ≠ j → Cond.not (Cond.eq (tmS 1) (tmS j)) ∈ (flatC (Jvm.Cond.and given_1 narrow_1)) ∨ Cond.not (Cond.eq (tmS j) (tmS 1)) ∈ (flatC (Jvm.Cond.and given_1 narrow_1)) := by decide +kernel
set_option maxRecDepth 100000 in
set_option maxHeartbeats 4000000 in
theorem sS_ne2 : ∀ j, j < 11 → 2 ≠ j → Cond.not (Cond.eq (tmS 2) (tmS j)) ∈ (flatC (Jvm.Cond.and given_1 narrow_1)) ∨ Cond.not (Cond.eq (tmS j) (tmS 2)) ∈ (flatC (Jvm.Cond.and given_1 narrow_1)) := by decide +kernel
set_option maxRecDepth 100000 in
set_option maxHeartbeats 4000000 in
theorem sS_ne3 : ∀ j, j < 11 → 3 ≠ j → Cond.not (Cond.eq (tmS 3) (tmS j)) ∈ (flatC (Jvm.Cond.and given_1 narrow_1)) ∨ Cond.not (Cond.eq (tmS j) (tmS 3)) ∈ (flatC (Jvm.Cond.and given_1 narrow_1)) := by decide +kernel
set_option maxRecDepth 100000 in
set_option maxHeartbeats 4000000 in
theorem sS_ne4 : ∀ j, j < 11 → 4 ≠ j → Cond.not (Cond.eq (tmS 4) (tmS j)) ∈ (flatC (Jvm.Cond.and given_1 narrow_1)) ∨ Cond.not (Cond.eq (tmS j) (tmS 4)) ∈ (flatC (Jvm.Cond.and given_1 narrow_1)) := by decide +kernel
set_option maxRecDepth 100000 in
set_option maxHeartbeats 4000000 in
theorem sS_ne5 : ∀ j, j < 11 → 5 ≠ j → Cond.not (Cond.eq (tmS 5) (tmS j)) ∈ (flatC (Jvm.Cond.and given_1 narrow_1)) ∨ Cond.not (Cond.eq (tmS j) (tmS 5)) ∈ (flatC (Jvm.Cond.and given_1 narrow_1)) := by decide +kernel
set_option maxRecDepth 100000 in
set_option maxHeartbeats 4000000 in
theorem sS_ne6 : ∀ j, j < 11 → 6 ≠ j → Cond.not (Cond.eq (tmS 6) (tmS j)) ∈ (flatC (Jvm.Cond.and given_1 narrow_1)) ∨ Cond.not (Cond.eq (tmS j) (tmS 6)) ∈ (flatC (Jvm.Cond.and given_1 narrow_1)) := by decide +kernel
set_option maxRecDepth 100000 in
set_option maxHeartbeats 4000000 in
theorem sS_ne7 : ∀ j, j < 11 → 7 ≠ j → Cond.not (Cond.eq (tmS 7) (tmS j)) ∈ (flatC (Jvm.Cond.and given_1 narrow_1)) ∨ Cond.not (Cond.eq (tmS j) (tmS 7)) ∈ (flatC (Jvm.Cond.and given_1 narrow_1)) := by decide +kernel
set_option maxRecDepth 100000 in
set_option maxHeartbeats 4000000 in
theorem sS_ne8 : ∀ j, j < 11 → 8 ≠ j → Cond.not (Cond.eq (tmS 8) (tmS j)) ∈ (flatC (Jvm.Cond.and given_1 narrow_1)) ∨ Cond.not (Cond.eq (tmS j) (tmS 8)) ∈ (flatC (Jvm.Cond.and given_1 narrow_1)) := by decide +kernel
set_option maxRecDepth 100000 in
set_option maxHeartbeats 4000000 in
theorem sS_ne9 : ∀ j, j < 11 → 9 ≠ j → Cond.not (Cond.eq (tmS 9) (tmS j)) ∈ (flatC (Jvm.Cond.and given_1 narrow_1)) ∨ Cond.not (Cond.eq (tmS j) (tmS 9)) ∈ (flatC (Jvm.Cond.and given_1 narrow_1)) := by decide +kernel
set_option maxRecDepth 100000 in
set_option maxHeartbeats 4000000 in
theorem sS_ne10 : ∀ j, j < 11 → 10 ≠ j → Cond.not (Cond.eq (tmS 10) (tmS j)) ∈ (flatC (Jvm.Cond.and given_1 narrow_1)) ∨ Cond.not (Cond.eq (tmS j) (tmS 10)) ∈ (flatC (Jvm.Cond.and given_1 narrow_1)) := by decide +kernel
theorem sS_ne : ∀ i j, i < 11 → j < 11 → i ≠ j → Cond.not (Cond.eq (tmS i) (tmS j)) ∈ (flatC (Jvm.Cond.and given_1 narrow_1)) ∨ Cond.not (Cond.eq (tmS j) (tmS i)) ∈ (flatC (Jvm.Cond.and given_1 narrow_1)) := fun i j hi => match i, hi with
  | 0, _ => sS_ne0 j
  | 1, _ => sS_ne1 j
  | 2, _ => sS_ne2 j
  | 3, _ => sS_ne3 j
  | 4, _ => sS_ne4 j
  | 5, _ => sS_ne5 j
  | 6, _ => sS_ne6 j
  | 7, _ => sS_ne7 j
  | 8, _ => sS_ne8 j
  | 9, _ => sS_ne9 j
  | 10, _ => sS_ne10 j
  | k + 11, h => absurd h (by omega)
set_option maxRecDepth 100000 in
set_option maxHeartbeats 4000000 in
theorem sT_BURNS : Cond.arrayOf (.static "SnuffCourt" "BURNS" "[I") .int ∈ (flatC (Jvm.Cond.and given_1 narrow_1)) ∧ Cond.eq (.length (.static "SnuffCourt" "BURNS" "[I")) (.int (Int32.ofNat 4)) ∈ (flatC (Jvm.Cond.and given_1 narrow_1)) ∧ ∀ j, j < 4 → Cond.eq (.elem (.static "SnuffCourt" "BURNS" "[I") (.int (Int32.ofNat j))) (.int (tabBURNS j)) ∈ (flatC (Jvm.Cond.and given_1 narrow_1)) := by decide +kernel
set_option maxRecDepth 100000 in
set_option maxHeartbeats 4000000 in
theorem sT_FLAME_BOUNDS : Cond.arrayOf (.static "SnuffCourt" "FLAME_BOUNDS" "[I") .int ∈ (flatC (Jvm.Cond.and given_1 narrow_1)) ∧ Cond.eq (.length (.static "SnuffCourt" "FLAME_BOUNDS" "[I")) (.int (Int32.ofNat 3)) ∈ (flatC (Jvm.Cond.and given_1 narrow_1)) ∧ ∀ j, j < 3 → Cond.eq (.elem (.static "SnuffCourt" "FLAME_BOUNDS" "[I") (.int (Int32.ofNat j))) (.int (tabFLAME_BOUNDS j)) ∈ (flatC (Jvm.Cond.and given_1 narrow_1)) := by decide +kernel
set_option maxRecDepth 100000 in
set_option maxHeartbeats 4000000 in
theorem start_env {s : State} {b : Nat} (hts : ∀ w ∈ lw_tbl, w.before #[Value.ref b] s = true) (hgv : (Jvm.Cond.and given_1 narrow_1).before #[Value.ref b] s = true) : ∃ (tBURNS tFLAME_BOUNDS : Nat) (tS : Option Nat) (adK adV : Nat → Nat), EX tBURNS tFLAME_BOUNDS tS adK adV (fun q : Nat => s.heap.size ≤ q) s s.heap := by
  have hs := flat_of_before _ hgv
  have hA : ∀ a : Nat, a < s.heap.size → ¬ s.heap.size ≤ a := fun a h => Nat.not_le.mpr h
  obtain ⟨tBURNS, eBURNS, TBURNS⟩ := va_Tof (A := fun q : Nat => s.heap.size ≤ q) (f := fun j => .int (tabBURNS j)) (N := 4) (by decide) (hs _ sT_BURNS.1) (va_eqt (hs _ sT_BURNS.2.1)) (fun j hj => va_eqt (hs _ (sT_BURNS.2.2 j hj))) hA
  obtain ⟨tFLAME_BOUNDS, eFLAME_BOUNDS, TFLAME_BOUNDS⟩ := va_Tof (A := fun q : Nat => s.heap.size ≤ q) (f := fun j => .int (tabFLAME_BOUNDS j)) (N := 3) (by decide) (hs _ sT_FLAME_BOUNDS.1) (va_eqt (hs _ sT_FLAME_BOUNDS.2.1)) (fun j hj => va_eqt (hs _ (sT_FLAME_BOUNDS.2.2 j hj))) hA
  obtain ⟨adK, adV, hS, hSe⟩ := vk_Sof (A := fun q : Nat => s.heap.size ≤ q) (N := 11) (tm := tmS) (len := lenS) (byt := bytS) (by decide +kernel) (fun i hi => hs _ (sS_ex i hi)) (fun i hi => hs _ (sS_co i hi)) (fun i hi => hs _ (sS_ar i hi)) (fun i hi => hs _ (sS_le i hi)) (fun i hi j hj => hs _ (sS_el i hi j hj)) (fun i j hi hj h => (sS_ne i j hi hj h).elim (fun q => Or.inl (hs _ q)) (fun q => Or.inr (hs _ q))) hA
  have hq := va_Zqof (A := fun q : Nat => s.heap.size ≤ q) (hts (.laysStatic "jdk/internal/util/Preconditions" "SIOOBE_FORMATTER" "Ljava/util/function/BiFunction;") (by decide +kernel)) (hts (.initialized "jdk/internal/util/Preconditions") (by decide +kernel)) (hs (.isRef (.static "jdk/internal/util/Preconditions" "SIOOBE_FORMATTER" "Ljava/util/function/BiFunction;")) (by decide +kernel)) hA
  obtain ⟨tS, hZ⟩ : ∃ tS : Option Nat, va_Z "jdk/internal/util/Preconditions" "SIOOBE_FORMATTER" "Ljava/util/function/BiFunction;" (va_rf tS) (fun q : Nat => s.heap.size ≤ q) s s.heap := by
    rcases hq with h | ⟨t, h⟩
    · exact ⟨none, h⟩
    · exact ⟨some t, h⟩
  refine ⟨tBURNS, tFLAME_BOUNDS, tS, adK, adV, ⟨va_Zof (hts (.laysStatic "SnuffCourt" "BURNS" "[I") (by decide +kernel)) (hts (.initialized "SnuffCourt") (by decide +kernel)) eBURNS hA, TBURNS, va_Zof (hts (.laysStatic "SnuffCourt" "FLAME_BOUNDS" "[I") (by decide +kernel)) (hts (.initialized "SnuffCourt") (by decide +kernel)) eFLAME_BOUNDS hA, TFLAME_BOUNDS, va_Zof (hts (.laysStatic "java/lang/String" "COMPACT_STRINGS" "Z") (by decide +kernel)) (hts (.initialized "java/lang/String") (by decide +kernel)) (va_eqi (hs _ (show Cond.eq (.static "java/lang/String" "COMPACT_STRINGS" "Z") (.int 1) ∈ (flatC (Jvm.Cond.and given_1 narrow_1)) by decide +kernel))) hA, hZ, hS⟩, ⟨va_Nw.of rfl (hts (.methodLinkNest RX2 147 yX6_isIn RX6) (by decide +kernel)), va_Nw.of rfl (hts (.methodLinkNest RX0 64 yX6_isIn RX6) (by decide +kernel)), va_Nw.of rfl (hts (.methodLinkNest RX0 68 yX6_copyRow RX6) (by decide +kernel)), va_Nw.of rfl (hts (.methodLinkNest RX3 25 yX6_copyRow RX6) (by decide +kernel)), va_Nw.of rfl (hts (.methodLinkNest RX4 21 yX6_isIn RX6) (by decide +kernel)), va_Nw.of rfl (hts (.methodLinkNest RX6 11 yX0_init RX6) (by decide +kernel)), va_Nw.of rfl (hts (.methodLinkNest RX6 28 yX2_init RX6) (by decide +kernel)), va_Nw.of rfl (hts (.methodLinkNest RX2 17 yX0_init RX6) (by decide +kernel)), va_Nw.of rfl (hts (.methodLinkNest RX6 35 yX5_init RX6) (by decide +kernel)), va_Nw.of rfl (hts (.methodLinkNest RX6 42 yX3_init RX6) (by decide +kernel)), va_Nw.of rfl (hts (.methodLinkNest RX6 49 yX1_init RX6) (by decide +kernel)), va_Nw.of rfl (hts (.methodLinkNest RX6 56 yX4_init RX6) (by decide +kernel)), va_Nw.of rfl (hts (.fieldLinkNest RX5 65 "SnuffCourt" "BURNS" "[I" RX6) (by decide +kernel))⟩, ⟨vk_R.of (hts (.stringRef RX2 72 "case") (by decide +kernel)) (hSe 0 (by decide)), vk_R.of (hts (.stringRef RX2 158 "tallow") (by decide +kernel)) (hSe 1 (by decide)), vk_R.of (hts (.stringRef RX2 160 "wax") (by decide +kernel)) (hSe 2 (by decide)), vk_R.of (hts (.stringRef RX2 162 "bees") (by decide +kernel)) (hSe 3 (by decide)), vk_R.of (hts (.stringRef RX2 164 "thief") (by decide +kernel)) (hSe 4 (by decide)), vk_R.of (hts (.stringRef RX2 81 "draught") (by decide +kernel)) (hSe 5 (by decide)), vk_R.of (hts (.stringRef RX2 86 "docket") (by decide +kernel)) (hSe 6 (by decide)), vk_R.of (hts (.stringRef RX2 166 "first") (by decide +kernel)) (hSe 7 (by decide)), vk_R.of (hts (.stringRef RX2 168 "long") (by decide +kernel)) (hSe 8 (by decide)), vk_R.of (hts (.stringRef RX2 170 "short") (by decide +kernel)) (hSe 9 (by decide)), vk_R.of (hts (.stringRef RX2 172 "bare") (by decide +kernel)) (hSe 10 (by decide))⟩⟩
set_option maxRecDepth 100000 in
set_option maxHeartbeats 4000000 in
theorem start_K {s : State} {b : Nat} (hts : ∀ w ∈ lw_tbl, w.before #[Value.ref b] s = true) : ∃ (D : va_G) (cI cZ : ClassId), va_K D vwCl [(cI, .int), (cZ, .boolean)] s := by
  obtain ⟨c0, iS0, hKn0⟩ := u_known (C := RX0) (T := TX0) (N := 17) (n := 17) hts inX0 (hts (.instantiable RX0 17) (by decide +kernel))
  obtain ⟨c1, iS1, hKn1⟩ := u_known (C := RX1) (T := TX1) (N := 4) (n := 4) hts inX1 (hts (.instantiable RX1 4) (by decide +kernel))
  obtain ⟨c2, iS2, hKn2⟩ := u_known (C := RX2) (T := TX2) (N := 9) (n := 9) hts inX2 (hts (.instantiable RX2 9) (by decide +kernel))
  obtain ⟨c3, iS3, hKn3⟩ := u_known (C := RX3) (T := TX3) (N := 3) (n := 3) hts inX3 (hts (.instantiable RX3 3) (by decide +kernel))
  obtain ⟨c4, iS4, hKn4⟩ := u_known (C := RX4) (T := TX4) (N := 3) (n := 3) hts inX4 (hts (.instantiable RX4 3) (by decide +kernel))
  obtain ⟨c5, iS5, hKn5⟩ := u_known (C := RX5) (T := TX5) (N := 7) (n := 7) hts inX5 (hts (.instantiable RX5 7) (by decide +kernel))
  obtain ⟨c6, iS6, hKn6⟩ := u_known (C := RX6) (T := TX6) (N := 12) (n := 12) hts inX6 (hts (.instantiable RX6 12) (by decide +kernel))
  obtain ⟨c7, iS7, hKn7⟩ := u_known (C := RX7) (T := TX7) (N := 36) (n := 36) hts inX7 (hts (.instantiable RX7 36) (by decide +kernel))
  obtain ⟨cI, kI, pI, eI, fI, gI⟩ := Cond.arrayClass_spec (hts (.arrayClass .int) (by decide +kernel))
  obtain ⟨cZ, kZ, pZ, eZ, fZ, gZ⟩ := Cond.arrayClass_spec (hts (.arrayClass .boolean) (by decide +kernel))
  refine ⟨(fun k => if k = 0 then c0 else if k = 1 then c1 else if k = 2 then c2 else if k = 3 then c3 else if k = 4 then c4 else if k = 5 then c5 else if k = 6 then c6 else c7, fun k => if k = 0 then iS0 else if k = 1 then iS1 else if k = 2 then iS2 else if k = 3 then iS3 else if k = 4 then iS4 else if k = 5 then iS5 else if k = 6 then iS6 else iS7), cI, cZ, ?_, ?_⟩
  · intro k q hq
    match k, hq with
    | 0, hq => cases hq; exact hKn0
    | 1, hq => cases hq; exact hKn1
    | 2, hq => cases hq; exact hKn2
    | 3, hq => cases hq; exact hKn3
    | 4, hq => cases hq; exact hKn4
    | 5, hq => cases hq; exact hKn5
    | 6, hq => cases hq; exact hKn6
    | 7, hq => cases hq; exact hKn7
    | k + 8, hq => simp [vwCl] at hq
  · intro k q hq
    match k, hq with
    | 0, hq => cases hq; exact ⟨fun n z => ⟨fun k h => (by cases h), kI, fI, pI, gI⟩, eI⟩
    | 1, hq => cases hq; exact ⟨fun n z => ⟨fun k h => (by cases h), kZ, fZ, pZ, gZ⟩, eZ⟩
    | k + 2, hq => simp at hq
