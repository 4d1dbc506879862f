/-! around a constructor: the nest's links alone -/
def EK (_ : Nat → Prop) (U : State) (_ : Heap) : Prop := NX U
theorem EK_ok : EVok EK := fun A A1 s U H locs h hS hW hA => ⟨va_Nw.warmM hW h.1, va_Nw.warmM hW h.2.1, va_Nw.warmM hW h.2.2.1, va_Nw.warmM hW h.2.2.2.1, va_Nw.warmM hW h.2.2.2.2.1, va_Nw.warmM hW h.2.2.2.2.2.1, va_Nw.warmM hW h.2.2.2.2.2.2.1, va_Nw.warmM hW h.2.2.2.2.2.2.2.1, va_Nw.warmM hW h.2.2.2.2.2.2.2.2.1, va_Nw.warmM hW h.2.2.2.2.2.2.2.2.2.1, va_Nw.warmM hW h.2.2.2.2.2.2.2.2.2.2.1, va_Nw.warmM hW h.2.2.2.2.2.2.2.2.2.2.2.1, va_Nw.warmF hW h.2.2.2.2.2.2.2.2.2.2.2.2⟩
theorem EK_vm : EVvm EK := fun A U V H e h => ⟨va_Nw.same rfl e h.1, va_Nw.same rfl e h.2.1, va_Nw.same rfl e h.2.2.1, va_Nw.same rfl e h.2.2.2.1, va_Nw.same rfl e h.2.2.2.2.1, va_Nw.same rfl e h.2.2.2.2.2.1, va_Nw.same rfl e h.2.2.2.2.2.2.1, va_Nw.same rfl e h.2.2.2.2.2.2.2.1, va_Nw.same rfl e h.2.2.2.2.2.2.2.2.1, va_Nw.same rfl e h.2.2.2.2.2.2.2.2.2.1, va_Nw.same rfl e h.2.2.2.2.2.2.2.2.2.2.1, va_Nw.same rfl e h.2.2.2.2.2.2.2.2.2.2.2.1, va_Nw.same rfl e h.2.2.2.2.2.2.2.2.2.2.2.2⟩
theorem EK_n0 {A : Nat → Prop} {U : State} {H : Heap} (h : EK A U H) : va_Nw (.methodLinkNest RX2 147 yX6_isIn RX6) U := h.1
theorem EK_n1 {A : Nat → Prop} {U : State} {H : Heap} (h : EK A U H) : va_Nw (.methodLinkNest RX0 64 yX6_isIn RX6) U := h.2.1
theorem EK_n2 {A : Nat → Prop} {U : State} {H : Heap} (h : EK A U H) : va_Nw (.methodLinkNest RX0 68 yX6_copyRow RX6) U := h.2.2.1
theorem EK_n3 {A : Nat → Prop} {U : State} {H : Heap} (h : EK A U H) : va_Nw (.methodLinkNest RX3 25 yX6_copyRow RX6) U := h.2.2.2.1
theorem EK_n4 {A : Nat → Prop} {U : State} {H : Heap} (h : EK A U H) : va_Nw (.methodLinkNest RX4 21 yX6_isIn RX6) U := h.2.2.2.2.1
theorem EK_n5 {A : Nat → Prop} {U : State} {H : Heap} (h : EK A U H) : va_Nw (.methodLinkNest RX6 11 yX0_init RX6) U := h.2.2.2.2.2.1
theorem EK_n6 {A : Nat → Prop} {U : State} {H : Heap} (h : EK A U H) : va_Nw (.methodLinkNest RX6 28 yX2_init RX6) U := h.2.2.2.2.2.2.1
theorem EK_n7 {A : Nat → Prop} {U : State} {H : Heap} (h : EK A U H) : va_Nw (.methodLinkNest RX2 17 yX0_init RX6) U := h.2.2.2.2.2.2.2.1
theorem EK_n8 {A : Nat → Prop} {U : State} {H : Heap} (h : EK A U H) : va_Nw (.methodLinkNest RX6 35 yX5_init RX6) U := h.2.2.2.2.2.2.2.2.1
theorem EK_n9 {A : Nat → Prop} {U : State} {H : Heap} (h : EK A U H) : va_Nw (.methodLinkNest RX6 42 yX3_init RX6) U := h.2.2.2.2.2.2.2.2.2.1
theorem EK_n10 {A : Nat → Prop} {U : State} {H : Heap} (h : EK A U H) : va_Nw (.methodLinkNest RX6 49 yX1_init RX6) U := h.2.2.2.2.2.2.2.2.2.2.1
theorem EK_n11 {A : Nat → Prop} {U : State} {H : Heap} (h : EK A U H) : va_Nw (.methodLinkNest RX6 56 yX4_init RX6) U := h.2.2.2.2.2.2.2.2.2.2.2.1
theorem EK_n12 {A : Nat → Prop} {U : State} {H : Heap} (h : EK A U H) : va_Nw (.fieldLinkNest RX5 65 "SnuffCourt" "BURNS" "[I" RX6) U := h.2.2.2.2.2.2.2.2.2.2.2.2
def kX0 (cI cZ : ClassId) (h0 : Nat) (q : Nat → Nat) : va_W := (h0, .inr (0, [.int 0, .int 0, .int 0, .int 0, .ref (q 0), .ref (q 1), .ref (q 2), .ref (q 3), .ref (q 4), .ref (q 5), .ref (q 6), .ref (q 7), .ref (q 8), .ref (q 9), .ref (q 10), .ref (q 11), .ref (q 12)])) :: ([(q 0, .inl (cI, (8, .inl (fun _ => 0))))] ++ [(q 1, .inl (cI, (8, .inl (fun _ => 0))))] ++ [(q 2, .inl (cI, (8, .inl (fun _ => 0))))] ++ [(q 3, .inl (cI, (4, .inl (fun _ => 0))))] ++ [(q 4, .inl (cI, (4, .inl (fun _ => 0))))] ++ [(q 5, .inl (cI, (4, .inl (fun _ => 0))))] ++ [(q 6, .inl (cI, (4, .inl (fun _ => 0))))] ++ [(q 7, .inl (cI, (3, .inl (fun _ => 0))))] ++ [(q 8, .inl (cI, (3, .inl (fun _ => 0))))] ++ [(q 9, .inl (cI, (4, .inl (fun _ => 0))))] ++ [(q 10, .inl (cI, (4, .inl (fun _ => 0))))] ++ [(q 11, .inl (cI, (6, .inl (fun _ => 0))))] ++ [(q 12, .inl (cI, (6, .inl (fun _ => 0))))])
set_option maxRecDepth 100000 in
set_option maxHeartbeats 4000000 in
theorem tX0_init {l : Launch} {D : va_G} {cI cZ : ClassId} : CtK l D [(cI, .int), (cZ, .boolean)] EK yX0_init wsX0_init ({ frames := 1, cells := 13, slots := 66, locals := 12 } : Room) 0 [.int 0, .int 0, .int 0, .int 0, .null, .null, .null, .null, .null, .null, .null, .null, .null, .null, .null, .null, .null] (kX0 cI cZ) := by
  refine ctK_of (own := RX0) (cc := cX0_init) (n := 1) (by decide) rfl rfl rfl (Nat.le_of_ble_eq_true rfl) (fun h0 hin C => ?_)
  have iX0 : ∀ w ∈ wsX00, w ∈ wsX0_init := fun w h => List.mem_cons_of_mem _ (List.mem_append_right _ (inlX0 w h))
  refine k_aload_n C 0 0 dX0_init_0 rfl ?_
  refine k_obj C 1 (by decide +kernel) (by decide +kernel) (by decide +kernel) dX0_init_1 ⟨Nat.le_of_ble_eq_true rfl, Nat.le_of_ble_eq_true rfl⟩ ?_
  refine k_aload_n C 4 0 dX0_init_4 rfl ?_
  refine k_iconst C 5 0 dX0_init_5 rfl ?_
  refine k_put (T := TX0) C 6 0 0 tyX0 .int ((h0, .inr (0, [.int 0, .int 0, .int 0, .int 0, .null, .null, .null, .null, .null, .null, .null, .null, .null, .null, .null, .null, .null])) :: ([] : va_W)) iX0 tyX0_ok nmX0 rfl rfl rfl (by decide) (by decide +kernel) rfl (by decide +kernel) rfl rfl (Nat.le_of_ble_eq_true rfl) dX0_init_6 ?_
  refine k_aload_n C 9 0 dX0_init_9 rfl ?_
  refine k_iconst C 10 0 dX0_init_10 rfl ?_
  refine k_put (T := TX0) C 11 0 1 tyX0 .int ((h0, .inr (0, [.int 0, .int 0, .int 0, .int 0, .null, .null, .null, .null, .null, .null, .null, .null, .null, .null, .null, .null, .null])) :: ([] : va_W)) iX0 tyX0_ok nmX0 rfl rfl rfl (by decide) (by decide +kernel) rfl (by decide +kernel) rfl rfl (Nat.le_of_ble_eq_true rfl) dX0_init_11 ?_
  refine k_aload_n C 14 0 dX0_init_14 rfl ?_
  refine k_iconst C 15 0 dX0_init_15 rfl ?_
  refine k_put (T := TX0) C 16 0 2 tyX0 .int ((h0, .inr (0, [.int 0, .int 0, .int 0, .int 0, .null, .null, .null, .null, .null, .null, .null, .null, .null, .null, .null, .null, .null])) :: ([] : va_W)) iX0 tyX0_ok nmX0 rfl rfl rfl (by decide) (by decide +kernel) rfl (by decide +kernel) rfl rfl (Nat.le_of_ble_eq_true rfl) dX0_init_16 ?_
  refine k_aload_n C 19 0 dX0_init_19 rfl ?_
  refine k_iconst C 20 0 dX0_init_20 rfl ?_
  refine k_put (T := TX0) C 21 0 3 tyX0 .int ((h0, .inr (0, [.int 0, .int 0, .int 0, .int 0, .null, .null, .null, .null, .null, .null, .null, .null, .null, .null, .null, .null, .null])) :: ([] : va_W)) iX0 tyX0_ok nmX0 rfl rfl rfl (by decide) (by decide +kernel) rfl (by decide +kernel) rfl rfl (Nat.le_of_ble_eq_true rfl) dX0_init_21 ?_
  refine k_aload_n C 24 0 dX0_init_24 rfl ?_
  refine k_bipush C 25 8 dX0_init_25 rfl ?_
  refine k_newi C 27 0 8 (by decide +kernel) rfl (by decide) (by decide +kernel) (by decide) ⟨Nat.le_of_ble_eq_true rfl, Nat.le_of_ble_eq_true rfl⟩ dX0_init_27 (fun q1 => ?_)
  refine k_putF (T := TX0) C hin 29 0 4 tyX0 (.array .int) ((h0, .inr (0, [.int 0, .int 0, .int 0, .int 0, .ref q1, .null, .null, .null, .null, .null, .null, .null, .null, .null, .null, .null, .null])) :: (([] : va_W) ++ [(q1, .inl (cI, (8, .inl (fun _ => 0))))])) iX0 tyX0_ok nmX0 rfl rfl rfl (by decide) (by decide +kernel) rfl rfl (by decide +kernel) rfl rfl (Nat.le_of_ble_eq_true rfl) dX0_init_29 ?_
  refine k_aload_n C 32 0 dX0_init_32 rfl ?_
  refine k_bipush C 33 8 dX0_init_33 rfl ?_
  refine k_newi C 35 0 8 (by decide +kernel) rfl (by decide) (by decide +kernel) (by decide) ⟨Nat.le_of_ble_eq_true rfl, Nat.le_of_ble_eq_true rfl⟩ dX0_init_35 (fun q2 => ?_)
  refine k_putF (T := TX0) C hin 37 0 5 tyX0 (.array .int) ((h0, .inr (0, [.int 0, .int 0, .int 0, .int 0, .ref q1, .ref q2, .null, .null, .null, .null, .null, .null, .null, .null, .null, .null, .null])) :: ((([] : va_W) ++ [(q1, .inl (cI, (8, .inl (fun _ => 0))))]) ++ [(q2, .inl (cI, (8, .inl (fun _ => 0))))])) iX0 tyX0_ok nmX0 rfl rfl rfl (by decide) (by decide +kernel) rfl rfl (by decide +kernel) rfl rfl (Nat.le_of_ble_eq_true rfl) dX0_init_37 ?_
  refine k_aload_n C 40 0 dX0_init_40 rfl ?_
  refine k_bipush C 41 8 dX0_init_41 rfl ?_
  refine k_newi C 43 0 8 (by decide +kernel) rfl (by decide) (by decide +kernel) (by decide) ⟨Nat.le_of_ble_eq_true rfl, Nat.le_of_ble_eq_true rfl⟩ dX0_init_43 (fun q3 => ?_)
  refine k_putF (T := TX0) C hin 45 0 6 tyX0 (.array .int) ((h0, .inr (0, [.int 0, .int 0, .int 0, .int 0, .ref q1, .ref q2, .ref q3, .null, .null, .null, .null, .null, .null, .null, .null, .null, .null])) :: (((([] : va_W) ++ [(q1, .inl (cI, (8, .inl (fun _ => 0))))]) ++ [(q2, .inl (cI, (8, .inl (fun _ => 0))))]) ++ [(q3, .inl (cI, (8, .inl (fun _ => 0))))])) iX0 tyX0_ok nmX0 rfl rfl rfl (by decide) (by decide +kernel) rfl rfl (by decide +kernel) rfl rfl (Nat.le_of_ble_eq_true rfl) dX0_init_45 ?_
  refine k_aload_n C 48 0 dX0_init_48 rfl ?_
  refine k_iconst C 49 4 dX0_init_49 rfl ?_
  refine k_newi C 50 0 4 (by decide +kernel) rfl (by decide) (by decide +kernel) (by decide) ⟨Nat.le_of_ble_eq_true rfl, Nat.le_of_ble_eq_true rfl⟩ dX0_init_50 (fun q4 => ?_)
  refine k_putF (T := TX0) C hin 52 0 7 tyX0 (.array .int) ((h0, .inr (0, [.int 0, .int 0, .int 0, .int 0, .ref q1, .ref q2, .ref q3, .ref q4, .null, .null, .null, .null, .null, .null, .null, .null, .null])) :: ((((([] : va_W) ++ [(q1, .inl (cI, (8, .inl (fun _ => 0))))]) ++ [(q2, .inl (cI, (8, .inl (fun _ => 0))))]) ++ [(q3, .inl (cI, (8, .inl (fun _ => 0))))]) ++ [(q4, .inl (cI, (4, .inl (fun _ => 0))))])) iX0 tyX0_ok nmX0 rfl rfl rfl (by decide) (by decide +kernel) rfl rfl (by decide +kernel) rfl rfl (Nat.le_of_ble_eq_true rfl) dX0_init_52 ?_
  refine k_aload_n C 55 0 dX0_init_55 rfl ?_
  refine k_iconst C 56 4 dX0_init_56 rfl ?_
  refine k_newi C 57 0 4 (by decide +kernel) rfl (by decide) (by decide +kernel) (by decide) ⟨Nat.le_of_ble_eq_true rfl, Nat.le_of_ble_eq_true rfl⟩ dX0_init_57 (fun q5 => ?_)
  refine k_putF (T := TX0) C hin 59 0 8 tyX0 (.array .int) ((h0, .inr (0, [.int 0, .int 0, .int 0, .int 0, .ref q1, .ref q2, .ref q3, .ref q4, .ref q5, .null, .null, .null, .null, .null, .null, .null, .null])) :: (((((([] : va_W) ++ [(q1, .inl (cI, (8, .inl (fun _ => 0))))]) ++ [(q2, .inl (cI, (8, .inl (fun _ => 0))))]) ++ [(q3, .inl (cI, (8, .inl (fun _ => 0))))]) ++ [(q4, .inl (cI, (4, .inl (fun _ => 0))))]) ++ [(q5, .inl (cI, (4, .inl (fun _ => 0))))])) iX0 tyX0_ok nmX0 rfl rfl rfl (by decide) (by decide +kernel) rfl rfl (by decide +kernel) rfl rfl (Nat.le_of_ble_eq_true rfl) dX0_init_59 ?_
  refine k_aload_n C 62 0 dX0_init_62 rfl ?_
  refine k_iconst C 63 4 dX0_init_63 rfl ?_
  refine k_newi C 64 0 4 (by decide +kernel) rfl (by decide) (by decide +kernel) (by decide) ⟨Nat.le_of_ble_eq_true rfl, Nat.le_of_ble_eq_true rfl⟩ dX0_init_64 (fun q6 => ?_)
  refine k_putF (T := TX0) C hin 66 0 9 tyX0 (.array .int) ((h0, .inr (0, [.int 0, .int 0, .int 0, .int 0, .ref q1, .ref q2, .ref q3, .ref q4, .ref q5, .ref q6, .null, .null, .null, .null, .null, .null, .null])) :: ((((((([] : va_W) ++ [(q1, .inl (cI, (8, .inl (fun _ => 0))))]) ++ [(q2, .inl (cI, (8, .inl (fun _ => 0))))]) ++ [(q3, .inl (cI, (8, .inl (fun _ => 0))))]) ++ [(q4, .inl (cI, (4, .inl (fun _ => 0))))]) ++ [(q5, .inl (cI, (4, .inl (fun _ => 0))))]) ++ [(q6, .inl (cI, (4, .inl (fun _ => 0))))])) iX0 tyX0_ok nmX0 rfl rfl rfl (by decide) (by decide +kernel) rfl rfl (by decide +kernel) rfl rfl (Nat.le_of_ble_eq_true rfl) dX0_init_66 ?_
  refine k_aload_n C 69 0 dX0_init_69 rfl ?_
  refine k_iconst C 70 4 dX0_init_70 rfl ?_
  refine k_newi C 71 0 4 (by decide +kernel) rfl (by decide) (by decide +kernel) (by decide) ⟨Nat.le_of_ble_eq_true rfl, Nat.le_of_ble_eq_true rfl⟩ dX0_init_71 (fun q7 => ?_)
  refine k_putF (T := TX0) C hin 73 0 10 tyX0 (.array .int) ((h0, .inr (0, [.int 0, .int 0, .int 0, .int 0, .ref q1, .ref q2, .ref q3, .ref q4, .ref q5, .ref q6, .ref q7, .null, .null, .null, .null, .null, .null])) :: (((((((([] : va_W) ++ [(q1, .inl (cI, (8, .inl (fun _ => 0))))]) ++ [(q2, .inl (cI, (8, .inl (fun _ => 0))))]) ++ [(q3, .inl (cI, (8, .inl (fun _ => 0))))]) ++ [(q4, .inl (cI, (4, .inl (fun _ => 0))))]) ++ [(q5, .inl (cI, (4, .inl (fun _ => 0))))]) ++ [(q6, .inl (cI, (4, .inl (fun _ => 0))))]) ++ [(q7, .inl (cI, (4, .inl (fun _ => 0))))])) iX0 tyX0_ok nmX0 rfl rfl rfl (by decide) (by decide +kernel) rfl rfl (by decide +kernel) rfl rfl (Nat.le_of_ble_eq_true rfl) dX0_init_73 ?_
  refine k_aload_n C 76 0 dX0_init_76 rfl ?_
  refine k_iconst C 77 3 dX0_init_77 rfl ?_
  refine k_newi C 78 0 3 (by decide +kernel) rfl (by decide) (by decide +kernel) (by decide) ⟨Nat.le_of_ble_eq_true rfl, Nat.le_of_ble_eq_true rfl⟩ dX0_init_78 (fun q8 => ?_)
  refine k_putF (T := TX0) C hin 80 0 11 tyX0 (.array .int) ((h0, .inr (0, [.int 0, .int 0, .int 0, .int 0, .ref q1, .ref q2, .ref q3, .ref q4, .ref q5, .ref q6, .ref q7, .ref q8, .null, .null, .null, .null, .null])) :: ((((((((([] : va_W) ++ [(q1, .inl (cI, (8, .inl (fun _ => 0))))]) ++ [(q2, .inl (cI, (8, .inl (fun _ => 0))))]) ++ [(q3, .inl (cI, (8, .inl (fun _ => 0))))]) ++ [(q4, .inl (cI, (4, .inl (fun _ => 0))))]) ++ [(q5, .inl (cI, (4, .inl (fun _ => 0))))]) ++ [(q6, .inl (cI, (4, .inl (fun _ => 0))))]) ++ [(q7, .inl (cI, (4, .inl (fun _ => 0))))]) ++ [(q8, .inl (cI, (3, .inl (fun _ => 0))))])) iX0 tyX0_ok nmX0 rfl rfl rfl (by decide) (by decide +kernel) rfl rfl (by decide +kernel) rfl rfl (Nat.le_of_ble_eq_true rfl) dX0_init_80 ?_
  refine k_aload_n C 83 0 dX0_init_83 rfl ?_
  refine k_iconst C 84 3 dX0_init_84 rfl ?_
  refine k_newi C 85 0 3 (by decide +kernel) rfl (by decide) (by decide +kernel) (by decide) ⟨Nat.le_of_ble_eq_true rfl, Nat.le_of_ble_eq_true rfl⟩ dX0_init_85 (fun q9 => ?_)
  refine k_putF (T := TX0) C hin 87 0 12 tyX0 (.array .int) ((h0, .inr (0, [.int 0, .int 0, .int 0, .int 0, .ref q1, .ref q2, .ref q3, .ref q4, .ref q5, .ref q6, .ref q7, .ref q8, .ref q9, .null, .null, .null, .null])) :: (((((((((([] : va_W) ++ [(q1, .inl (cI, (8, .inl (fun _ => 0))))]) ++ [(q2, .inl (cI, (8, .inl (fun _ => 0))))]) ++ [(q3, .inl (cI, (8, .inl (fun _ => 0))))]) ++ [(q4, .inl (cI, (4, .inl (fun _ => 0))))]) ++ [(q5, .inl (cI, (4, .inl (fun _ => 0))))]) ++ [(q6, .inl (cI, (4, .inl (fun _ => 0))))]) ++ [(q7, .inl (cI, (4, .inl (fun _ => 0))))]) ++ [(q8, .inl (cI, (3, .inl (fun _ => 0))))]) ++ [(q9, .inl (cI, (3, .inl (fun _ => 0))))])) iX0 tyX0_ok nmX0 rfl rfl rfl (by decide) (by decide +kernel) rfl rfl (by decide +kernel) rfl rfl (Nat.le_of_ble_eq_true rfl) dX0_init_87 ?_
  refine k_aload_n C 90 0 dX0_init_90 rfl ?_
  refine k_iconst C 91 4 dX0_init_91 rfl ?_
  refine k_newi C 92 0 4 (by decide +kernel) rfl (by decide) (by decide +kernel) (by decide) ⟨Nat.le_of_ble_eq_true rfl, Nat.le_of_ble_eq_true rfl⟩ dX0_init_92 (fun q10 => ?_)
  refine k_putF (T := TX0) C hin 94 0 13 tyX0 (.array .int) ((h0, .inr (0, [.int 0, .int 0, .int 0, .int 0, .ref q1, .ref q2, .ref q3, .ref q4, .ref q5, .ref q6, .ref q7, .ref q8, .ref q9, .ref q10, .null, .null, .null])) :: ((((((((((([] : va_W) ++ [(q1, .inl (cI, (8, .inl (fun _ => 0))))]) ++ [(q2, .inl (cI, (8, .inl (fun _ => 0))))]) ++ [(q3, .inl (cI, (8, .inl (fun _ => 0))))]) ++ [(q4, .inl (cI, (4, .inl (fun _ => 0))))]) ++ [(q5, .inl (cI, (4, .inl (fun _ => 0))))]) ++ [(q6, .inl (cI, (4, .inl (fun _ => 0))))]) ++ [(q7, .inl (cI, (4, .inl (fun _ => 0))))]) ++ [(q8, .inl (cI, (3, .inl (fun _ => 0))))]) ++ [(q9, .inl (cI, (3, .inl (fun _ => 0))))]) ++ [(q10, .inl (cI, (4, .inl (fun _ => 0))))])) iX0 tyX0_ok nmX0 rfl rfl rfl (by decide) (by decide +kernel) rfl rfl (by decide +kernel) rfl rfl (Nat.le_of_ble_eq_true rfl) dX0_init_94 ?_
  refine k_aload_n C 97 0 dX0_init_97 rfl ?_
  refine k_iconst C 98 4 dX0_init_98 rfl ?_
  refine k_newi C 99 0 4 (by decide +kernel) rfl (by decide) (by decide +kernel) (by decide) ⟨Nat.le_of_ble_eq_true rfl, Nat.le_of_ble_eq_true rfl⟩ dX0_init_99 (fun q11 => ?_)
  refine k_putF (T := TX0) C hin 101 0 14 tyX0 (.array .int) ((h0, .inr (0, [.int 0, .int 0, .int 0, .int 0, .ref q1, .ref q2, .ref q3, .ref q4, .ref q5, .ref q6, .ref q7, .ref q8, .ref q9, .ref q10, .ref q11, .null, .null])) :: (((((((((((([] : va_W) ++ [(q1, .inl (cI, (8, .inl (fun _ => 0))))]) ++ [(q2, .inl (cI, (8, .inl (fun _ => 0))))]) ++ [(q3, .inl (cI, (8, .inl (fun _ => 0))))]) ++ [(q4, .inl (cI, (4, .inl (fun _ => 0))))]) ++ [(q5, .inl (cI, (4, .inl (fun _ => 0))))]) ++ [(q6, .inl (cI, (4, .inl (fun _ => 0))))]) ++ [(q7, .inl (cI, (4, .inl (fun _ => 0))))]) ++ [(q8, .inl (cI, (3, .inl (fun _ => 0))))]) ++ [(q9, .inl (cI, (3, .inl (fun _ => 0))))]) ++ [(q10, .inl (cI, (4, .inl (fun _ => 0))))]) ++ [(q11, .inl (cI, (4, .inl (fun _ => 0))))])) iX0 tyX0_ok nmX0 rfl rfl rfl (by decide) (by decide +kernel) rfl rfl (by decide +kernel) rfl rfl (Nat.le_of_ble_eq_true rfl) dX0_init_101 ?_
  refine k_aload_n C 104 0 dX0_init_104 rfl ?_
  refine k_bipush C 105 6 dX0_init_105 rfl ?_
  refine k_newi C 107 0 6 (by decide +kernel) rfl (by decide) (by decide +kernel) (by decide) ⟨Nat.le_of_ble_eq_true rfl, Nat.le_of_ble_eq_true rfl⟩ dX0_init_107 (fun q12 => ?_)
  refine k_putF (T := TX0) C hin 109 0 15 tyX0 (.array .int) ((h0, .inr (0, [.int 0, .int 0, .int 0, .int 0, .ref q1, .ref q2, .ref q3, .ref q4, .ref q5, .ref q6, .ref q7, .ref q8, .ref q9, .ref q10, .ref q11, .ref q12, .null])) :: ((((((((((((([] : va_W) ++ [(q1, .inl (cI, (8, .inl (fun _ => 0))))]) ++ [(q2, .inl (cI, (8, .inl (fun _ => 0))))]) ++ [(q3, .inl (cI, (8, .inl (fun _ => 0))))]) ++ [(q4, .inl (cI, (4, .inl (fun _ => 0))))]) ++ [(q5, .inl (cI, (4, .inl (fun _ => 0))))]) ++ [(q6, .inl (cI, (4, .inl (fun _ => 0))))]) ++ [(q7, .inl (cI, (4, .inl (fun _ => 0))))]) ++ [(q8, .inl (cI, (3, .inl (fun _ => 0))))]) ++ [(q9, .inl (cI, (3, .inl (fun _ => 0))))]) ++ [(q10, .inl (cI, (4, .inl (fun _ => 0))))]) ++ [(q11, .inl (cI, (4, .inl (fun _ => 0))))]) ++ [(q12, .inl (cI, (6, .inl (fun _ => 0))))])) iX0 tyX0_ok nmX0 rfl rfl rfl (by decide) (by decide +kernel) rfl rfl (by decide +kernel) rfl rfl (Nat.le_of_ble_eq_true rfl) dX0_init_109 ?_
  refine k_aload_n C 112 0 dX0_init_112 rfl ?_
  refine k_bipush C 113 6 dX0_init_113 rfl ?_
  refine k_newi C 115 0 6 (by decide +kernel) rfl (by decide) (by decide +kernel) (by decide) ⟨Nat.le_of_ble_eq_true rfl, Nat.le_of_ble_eq_true rfl⟩ dX0_init_115 (fun q13 => ?_)
  refine k_putF (T := TX0) C hin 117 0 16 tyX0 (.array .int) ((h0, .inr (0, [.int 0, .int 0, .int 0, .int 0, .ref q1, .ref q2, .ref q3, .ref q4, .ref q5, .ref q6, .ref q7, .ref q8, .ref q9, .ref q10, .ref q11, .ref q12, .ref q13])) :: (((((((((((((([] : va_W) ++ [(q1, .inl (cI, (8, .inl (fun _ => 0))))]) ++ [(q2, .inl (cI, (8, .inl (fun _ => 0))))]) ++ [(q3, .inl (cI, (8, .inl (fun _ => 0))))]) ++ [(q4, .inl (cI, (4, .inl (fun _ => 0))))]) ++ [(q5, .inl (cI, (4, .inl (fun _ => 0))))]) ++ [(q6, .inl (cI, (4, .inl (fun _ => 0))))]) ++ [(q7, .inl (cI, (4, .inl (fun _ => 0))))]) ++ [(q8, .inl (cI, (3, .inl (fun _ => 0))))]) ++ [(q9, .inl (cI, (3, .inl (fun _ => 0))))]) ++ [(q10, .inl (cI, (4, .inl (fun _ => 0))))]) ++ [(q11, .inl (cI, (4, .inl (fun _ => 0))))]) ++ [(q12, .inl (cI, (6, .inl (fun _ => 0))))]) ++ [(q13, .inl (cI, (6, .inl (fun _ => 0))))])) iX0 tyX0_ok nmX0 rfl rfl rfl (by decide) (by decide +kernel) rfl rfl (by decide +kernel) rfl rfl (Nat.le_of_ble_eq_true rfl) dX0_init_117 ?_
  exact k_vret (W0 := (kX0 cI cZ)) C 120 (fun i => if i = 0 then q1 else if i = 1 then q2 else if i = 2 then q3 else if i = 3 then q4 else if i = 4 then q5 else if i = 5 then q6 else if i = 6 then q7 else if i = 7 then q8 else if i = 8 then q9 else if i = 9 then q10 else if i = 10 then q11 else if i = 11 then q12 else if i = 12 then q13 else 0) [0, 1, 2, 3, 4, 5, 6, 7, 8, 9, 10, 11, 12, 13] dX0_init_120 rfl (by decide +kernel) rfl rfl
def kX2 (cI cZ : ClassId) (h0 : Nat) (q : Nat → Nat) : va_W := (h0, .inr (2, [.ref (q 0), .ref (q 1), .int 0, .int 0, .int 0, .int 0, .int 0, .int 0, .int 0])) :: ([(q 0, .inl (cI, (160, .inl (fun _ => 0))))] ++ kX0 cI cZ (q 1) (fun i => q (i + 2)))
set_option maxRecDepth 100000 in
set_option maxHeartbeats 4000000 in
theorem tX2_init {l : Launch} {D : va_G} {cI cZ : ClassId} : CtK l D [(cI, .int), (cZ, .boolean)] EK yX2_init wsX2_init ({ frames := 2, cells := 15, slots := 243, locals := 32 } : Room) 2 [.null, .null, .int 0, .int 0, .int 0, .int 0, .int 0, .int 0, .int 0] (kX2 cI cZ) := by
  refine ctK_of (own := RX2) (cc := cX2_init) (n := 1) (by decide) rfl rfl rfl (Nat.le_of_ble_eq_true rfl) (fun h0 hin C => ?_)
  have iX2 : ∀ w ∈ wsX20, w ∈ wsX2_init := fun w h => List.mem_cons_of_mem _ (List.mem_append_right _ (inlX2 w h))
  refine k_aload_n C 0 0 dX2_init_0 rfl ?_
  refine k_obj C 1 (by decide +kernel) (by decide +kernel) (by decide +kernel) dX2_init_1 ⟨Nat.le_of_ble_eq_true rfl, Nat.le_of_ble_eq_true rfl⟩ ?_
  refine k_aload_n C 4 0 dX2_init_4 rfl ?_
  refine k_sipush C 5 160 dX2_init_5 rfl ?_
  refine k_newi C 8 0 160 (by decide +kernel) rfl (by decide) (by decide +kernel) (by decide) ⟨Nat.le_of_ble_eq_true rfl, Nat.le_of_ble_eq_true rfl⟩ dX2_init_8 (fun q1 => ?_)
  refine k_putF (T := TX2) C hin 10 0 0 tyX2 (.array .int) ((h0, .inr (2, [.ref q1, .null, .int 0, .int 0, .int 0, .int 0, .int 0, .int 0, .int 0])) :: (([] : va_W) ++ [(q1, .inl (cI, (160, .inl (fun _ => 0))))])) iX2 tyX2_ok nmX2 rfl rfl rfl (by decide) (by decide +kernel) rfl rfl (by decide +kernel) rfl rfl (Nat.le_of_ble_eq_true rfl) dX2_init_10 ?_
  refine k_aload_n C 13 0 dX2_init_13 rfl ?_
  refine k_new (ci := 0) (Cn := RX0) (T := TX0) C 14 tyX0 [.int 0, .int 0, .int 0, .int 0, .null, .null, .null, .null, .null, .null, .null, .null, .null, .null, .null, .null, .null] (fun w h => List.mem_cons_of_mem _ (List.mem_append_right _ (inlX0 w h))) tyX0_ok (by decide +kernel) (by decide +kernel) (by decide +kernel) rfl (fun j hj => match j, hj with | 0, _ => rfl | 1, _ => rfl | 2, _ => rfl | 3, _ => rfl | 4, _ => rfl | 5, _ => rfl | 6, _ => rfl | 7, _ => rfl | 8, _ => rfl | 9, _ => rfl | 10, _ => rfl | 11, _ => rfl | 12, _ => rfl | 13, _ => rfl | 14, _ => rfl | 15, _ => rfl | 16, _ => rfl | k + 17, h => absurd h (by omega)) ⟨Nat.le_of_ble_eq_true rfl, Nat.le_of_ble_eq_true rfl⟩ dX2_init_14 (fun q2 => ?_)
  refine k_dup C 17 dX2_init_17 rfl ?_
  refine k_call (st := [.ref q2, .ref h0]) C EK_ok EK_vm 18 ((h0, .inr (2, [.ref q1, .null, .int 0, .int 0, .int 0, .int 0, .int 0, .int 0, .int 0])) :: (([] : va_W) ++ [(q1, .inl (cI, (160, .inl (fun _ => 0))))])) (tX0_init (l := l) (D := D)) ggX2_init_X0_init rfl (EK_n7 C.2.2.2.2.2.2.2.2.1) (by decide +kernel) (by decide +kernel) rfl (by decide +kernel) ⟨Nat.le_of_ble_eq_true rfl, Nat.le_of_ble_eq_true rfl⟩ ⟨Nat.le_of_ble_eq_true rfl, Nat.le_of_ble_eq_true rfl⟩ rfl (Nat.le_of_ble_eq_true rfl) dX2_init_18 (fun a3 => ?_)
  refine k_putF (T := TX2) C hin 21 0 1 tyX2 (.object "SnuffCourt$Court") ((h0, .inr (2, [.ref q1, .ref q2, .int 0, .int 0, .int 0, .int 0, .int 0, .int 0, .int 0])) :: ((([] : va_W) ++ [(q1, .inl (cI, (160, .inl (fun _ => 0))))]) ++ kX0 cI cZ q2 a3)) iX2 tyX2_ok nmX2 rfl rfl rfl (by decide) (by decide +kernel) rfl rfl (by decide +kernel) rfl rfl (Nat.le_of_ble_eq_true rfl) dX2_init_21 ?_
  refine k_aload_n C 24 0 dX2_init_24 rfl ?_
  refine k_iconst C 25 0 dX2_init_25 rfl ?_
  refine k_put (T := TX2) C 26 0 2 tyX2 .int ((h0, .inr (2, [.ref q1, .ref q2, .int 0, .int 0, .int 0, .int 0, .int 0, .int 0, .int 0])) :: ((([] : va_W) ++ [(q1, .inl (cI, (160, .inl (fun _ => 0))))]) ++ kX0 cI cZ q2 a3)) iX2 tyX2_ok nmX2 rfl rfl rfl (by decide) (by decide +kernel) rfl (by decide +kernel) rfl rfl (Nat.le_of_ble_eq_true rfl) dX2_init_26 ?_
  refine k_aload_n C 29 0 dX2_init_29 rfl ?_
  refine k_iconst C 30 0 dX2_init_30 rfl ?_
  refine k_put (T := TX2) C 31 0 3 tyX2 .int ((h0, .inr (2, [.ref q1, .ref q2, .int 0, .int 0, .int 0, .int 0, .int 0, .int 0, .int 0])) :: ((([] : va_W) ++ [(q1, .inl (cI, (160, .inl (fun _ => 0))))]) ++ kX0 cI cZ q2 a3)) iX2 tyX2_ok nmX2 rfl rfl rfl (by decide) (by decide +kernel) rfl (by decide +kernel) rfl rfl (Nat.le_of_ble_eq_true rfl) dX2_init_31 ?_
  refine k_aload_n C 34 0 dX2_init_34 rfl ?_
  refine k_iconst C 35 0 dX2_init_35 rfl ?_
  refine k_put (T := TX2) C 36 0 4 tyX2 .boolean ((h0, .inr (2, [.ref q1, .ref q2, .int 0, .int 0, .int 0, .int 0, .int 0, .int 0, .int 0])) :: ((([] : va_W) ++ [(q1, .inl (cI, (160, .inl (fun _ => 0))))]) ++ kX0 cI cZ q2 a3)) iX2 tyX2_ok nmX2 rfl rfl rfl (by decide) (by decide +kernel) rfl (by decide +kernel) rfl rfl (Nat.le_of_ble_eq_true rfl) dX2_init_36 ?_
  refine k_aload_n C 39 0 dX2_init_39 rfl ?_
  refine k_iconst C 40 0 dX2_init_40 rfl ?_
  refine k_put (T := TX2) C 41 0 5 tyX2 .int ((h0, .inr (2, [.ref q1, .ref q2, .int 0, .int 0, .int 0, .int 0, .int 0, .int 0, .int 0])) :: ((([] : va_W) ++ [(q1, .inl (cI, (160, .inl (fun _ => 0))))]) ++ kX0 cI cZ q2 a3)) iX2 tyX2_ok nmX2 rfl rfl rfl (by decide) (by decide +kernel) rfl (by decide +kernel) rfl rfl (Nat.le_of_ble_eq_true rfl) dX2_init_41 ?_
  refine k_aload_n C 44 0 dX2_init_44 rfl ?_
  refine k_iconst C 45 0 dX2_init_45 rfl ?_
  refine k_put (T := TX2) C 46 0 6 tyX2 .int ((h0, .inr (2, [.ref q1, .ref q2, .int 0, .int 0, .int 0, .int 0, .int 0, .int 0, .int 0])) :: ((([] : va_W) ++ [(q1, .inl (cI, (160, .inl (fun _ => 0))))]) ++ kX0 cI cZ q2 a3)) iX2 tyX2_ok nmX2 rfl rfl rfl (by decide) (by decide +kernel) rfl (by decide +kernel) rfl rfl (Nat.le_of_ble_eq_true rfl) dX2_init_46 ?_
  refine k_aload_n C 49 0 dX2_init_49 rfl ?_
  refine k_iconst C 50 0 dX2_init_50 rfl ?_
  refine k_put (T := TX2) C 51 0 7 tyX2 .int ((h0, .inr (2, [.ref q1, .ref q2, .int 0, .int 0, .int 0, .int 0, .int 0, .int 0, .int 0])) :: ((([] : va_W) ++ [(q1, .inl (cI, (160, .inl (fun _ => 0))))]) ++ kX0 cI cZ q2 a3)) iX2 tyX2_ok nmX2 rfl rfl rfl (by decide) (by decide +kernel) rfl (by decide +kernel) rfl rfl (Nat.le_of_ble_eq_true rfl) dX2_init_51 ?_
  refine k_aload_n C 54 0 dX2_init_54 rfl ?_
  refine k_iconst C 55 0 dX2_init_55 rfl ?_
  refine k_put (T := TX2) C 56 0 8 tyX2 .int ((h0, .inr (2, [.ref q1, .ref q2, .int 0, .int 0, .int 0, .int 0, .int 0, .int 0, .int 0])) :: ((([] : va_W) ++ [(q1, .inl (cI, (160, .inl (fun _ => 0))))]) ++ kX0 cI cZ q2 a3)) iX2 tyX2_ok nmX2 rfl rfl rfl (by decide) (by decide +kernel) rfl (by decide +kernel) rfl rfl (Nat.le_of_ble_eq_true rfl) dX2_init_56 ?_
  exact k_vret (W0 := (kX2 cI cZ)) C 59 (fun i => if i = 0 then q1 else if i = 1 then q2 else if i < 15 then a3 (i - 2) else 0) [0, 1, 2, 3, 4, 5, 6, 7, 8, 9, 10, 11, 12, 13, 14, 15] dX2_init_59 rfl (by decide +kernel) rfl rfl
def kX5 (cI cZ : ClassId) (h0 : Nat) (q : Nat → Nat) : va_W := (h0, .inr (5, [.ref (q 0), .ref (q 1), .ref (q 2), .ref (q 3), .int 0, .int 1, .int 0])) :: ([(q 0, .inl (cI, (2, .inl (fun _ => 0))))] ++ [(q 1, .inl (cI, (2, .inl (fun _ => 0))))] ++ [(q 2, .inl (cI, (2, .inl (fun _ => 0))))] ++ [(q 3, .inl (cI, (21, .inl (fun _ => 0))))])
set_option maxRecDepth 100000 in
set_option maxHeartbeats 4000000 in
theorem tX5_init {l : Launch} {D : va_G} {cI cZ : ClassId} : CtK l D [(cI, .int), (cZ, .boolean)] EK yX5_init wsX5_init ({ frames := 1, cells := 4, slots := 27, locals := 12 } : Room) 5 [.null, .null, .null, .null, .int 0, .int 0, .int 0] (kX5 cI cZ) := by
  refine ctK_of (own := RX5) (cc := cX5_init) (n := 1) (by decide) rfl rfl rfl (Nat.le_of_ble_eq_true rfl) (fun h0 hin C => ?_)
  have iX5 : ∀ w ∈ wsX50, w ∈ wsX5_init := fun w h => List.mem_cons_of_mem _ (List.mem_append_right _ (inlX5 w h))
  refine k_aload_n C 0 0 dX5_init_0 rfl ?_
  refine k_obj C 1 (by decide +kernel) (by decide +kernel) (by decide +kernel) dX5_init_1 ⟨Nat.le_of_ble_eq_true rfl, Nat.le_of_ble_eq_true rfl⟩ ?_
  refine k_aload_n C 4 0 dX5_init_4 rfl ?_
  refine k_iconst C 5 2 dX5_init_5 rfl ?_
  refine k_newi C 6 0 2 (by decide +kernel) rfl (by decide) (by decide +kernel) (by decide) ⟨Nat.le_of_ble_eq_true rfl, Nat.le_of_ble_eq_true rfl⟩ dX5_init_6 (fun q1 => ?_)
  refine k_putF (T := TX5) C hin 8 0 0 tyX5 (.array .int) ((h0, .inr (5, [.ref q1, .null, .null, .null, .int 0, .int 0, .int 0])) :: (([] : va_W) ++ [(q1, .inl (cI, (2, .inl (fun _ => 0))))])) iX5 tyX5_ok nmX5 rfl rfl rfl (by decide) (by decide +kernel) rfl rfl (by decide +kernel) rfl rfl (Nat.le_of_ble_eq_true rfl) dX5_init_8 ?_
  refine k_aload_n C 11 0 dX5_init_11 rfl ?_
  refine k_iconst C 12 2 dX5_init_12 rfl ?_
  refine k_newi C 13 0 2 (by decide +kernel) rfl (by decide) (by decide +kernel) (by decide) ⟨Nat.le_of_ble_eq_true rfl, Nat.le_of_ble_eq_true rfl⟩ dX5_init_13 (fun q2 => ?_)
  refine k_putF (T := TX5) C hin 15 0 1 tyX5 (.array .int) ((h0, .inr (5, [.ref q1, .ref q2, .null, .null, .int 0, .int 0, .int 0])) :: ((([] : va_W) ++ [(q1, .inl (cI, (2, .inl (fun _ => 0))))]) ++ [(q2, .inl (cI, (2, .inl (fun _ => 0))))])) iX5 tyX5_ok nmX5 rfl rfl rfl (by decide) (by decide +kernel) rfl rfl (by decide +kernel) rfl rfl (Nat.le_of_ble_eq_true rfl) dX5_init_15 ?_
  refine k_aload_n C 18 0 dX5_init_18 rfl ?_
  refine k_iconst C 19 2 dX5_init_19 rfl ?_
  refine k_newi C 20 0 2 (by decide +kernel) rfl (by decide) (by decide +kernel) (by decide) ⟨Nat.le_of_ble_eq_true rfl, Nat.le_of_ble_eq_true rfl⟩ dX5_init_20 (fun q3 => ?_)
  refine k_putF (T := TX5) C hin 22 0 2 tyX5 (.array .int) ((h0, .inr (5, [.ref q1, .ref q2, .ref q3, .null, .int 0, .int 0, .int 0])) :: (((([] : va_W) ++ [(q1, .inl (cI, (2, .inl (fun _ => 0))))]) ++ [(q2, .inl (cI, (2, .inl (fun _ => 0))))]) ++ [(q3, .inl (cI, (2, .inl (fun _ => 0))))])) iX5 tyX5_ok nmX5 rfl rfl rfl (by decide) (by decide +kernel) rfl rfl (by decide +kernel) rfl rfl (Nat.le_of_ble_eq_true rfl) dX5_init_22 ?_
  refine k_aload_n C 25 0 dX5_init_25 rfl ?_
  refine k_bipush C 26 21 dX5_init_26 rfl ?_
  refine k_newi C 28 0 21 (by decide +kernel) rfl (by decide) (by decide +kernel) (by decide) ⟨Nat.le_of_ble_eq_true rfl, Nat.le_of_ble_eq_true rfl⟩ dX5_init_28 (fun q4 => ?_)
  refine k_putF (T := TX5) C hin 30 0 3 tyX5 (.array .int) ((h0, .inr (5, [.ref q1, .ref q2, .ref q3, .ref q4, .int 0, .int 0, .int 0])) :: ((((([] : va_W) ++ [(q1, .inl (cI, (2, .inl (fun _ => 0))))]) ++ [(q2, .inl (cI, (2, .inl (fun _ => 0))))]) ++ [(q3, .inl (cI, (2, .inl (fun _ => 0))))]) ++ [(q4, .inl (cI, (21, .inl (fun _ => 0))))])) iX5 tyX5_ok nmX5 rfl rfl rfl (by decide) (by decide +kernel) rfl rfl (by decide +kernel) rfl rfl (Nat.le_of_ble_eq_true rfl) dX5_init_30 ?_
  refine k_aload_n C 33 0 dX5_init_33 rfl ?_
  refine k_iconst C 34 0 dX5_init_34 rfl ?_
  refine k_put (T := TX5) C 35 0 4 tyX5 .int ((h0, .inr (5, [.ref q1, .ref q2, .ref q3, .ref q4, .int 0, .int 0, .int 0])) :: ((((([] : va_W) ++ [(q1, .inl (cI, (2, .inl (fun _ => 0))))]) ++ [(q2, .inl (cI, (2, .inl (fun _ => 0))))]) ++ [(q3, .inl (cI, (2, .inl (fun _ => 0))))]) ++ [(q4, .inl (cI, (21, .inl (fun _ => 0))))])) iX5 tyX5_ok nmX5 rfl rfl rfl (by decide) (by decide +kernel) rfl (by decide +kernel) rfl rfl (Nat.le_of_ble_eq_true rfl) dX5_init_35 ?_
  refine k_aload_n C 38 0 dX5_init_38 rfl ?_
  refine k_iconst C 39 1 dX5_init_39 rfl ?_
  refine k_put (T := TX5) C 40 0 5 tyX5 .int ((h0, .inr (5, [.ref q1, .ref q2, .ref q3, .ref q4, .int 0, .int 1, .int 0])) :: ((((([] : va_W) ++ [(q1, .inl (cI, (2, .inl (fun _ => 0))))]) ++ [(q2, .inl (cI, (2, .inl (fun _ => 0))))]) ++ [(q3, .inl (cI, (2, .inl (fun _ => 0))))]) ++ [(q4, .inl (cI, (21, .inl (fun _ => 0))))])) iX5 tyX5_ok nmX5 rfl rfl rfl (by decide) (by decide +kernel) rfl (by decide +kernel) rfl rfl (Nat.le_of_ble_eq_true rfl) dX5_init_40 ?_
  refine k_aload_n C 43 0 dX5_init_43 rfl ?_
  refine k_iconst C 44 0 dX5_init_44 rfl ?_
  refine k_put (T := TX5) C 45 0 6 tyX5 .int ((h0, .inr (5, [.ref q1, .ref q2, .ref q3, .ref q4, .int 0, .int 1, .int 0])) :: ((((([] : va_W) ++ [(q1, .inl (cI, (2, .inl (fun _ => 0))))]) ++ [(q2, .inl (cI, (2, .inl (fun _ => 0))))]) ++ [(q3, .inl (cI, (2, .inl (fun _ => 0))))]) ++ [(q4, .inl (cI, (21, .inl (fun _ => 0))))])) iX5 tyX5_ok nmX5 rfl rfl rfl (by decide) (by decide +kernel) rfl (by decide +kernel) rfl rfl (Nat.le_of_ble_eq_true rfl) dX5_init_45 ?_
  exact k_vret (W0 := (kX5 cI cZ)) C 48 (fun i => if i = 0 then q1 else if i = 1 then q2 else if i = 2 then q3 else if i = 3 then q4 else 0) [0, 1, 2, 3, 4] dX5_init_48 rfl (by decide +kernel) rfl rfl
def kX3 (cI cZ : ClassId) (h0 : Nat) (q : Nat → Nat) : va_W := (h0, .inr (3, [.ref (q 0), .int (-4), .int 0])) :: ([(q 0, .inl (cI, (4, .inl (fun _ => 0))))])
set_option maxRecDepth 100000 in
set_option maxHeartbeats 4000000 in
theorem tX3_init {l : Launch} {D : va_G} {cI cZ : ClassId} : CtK l D [(cI, .int), (cZ, .boolean)] EK yX3_init wsX3_init ({ frames := 1, cells := 1, slots := 4, locals := 12 } : Room) 3 [.null, .int 0, .int 0] (kX3 cI cZ) := by
  refine ctK_of (own := RX3) (cc := cX3_init) (n := 1) (by decide) rfl rfl rfl (Nat.le_of_ble_eq_true rfl) (fun h0 hin C => ?_)
  have iX3 : ∀ w ∈ wsX30, w ∈ wsX3_init := fun w h => List.mem_cons_of_mem _ (List.mem_append_right _ (inlX3 w h))
  refine k_aload_n C 0 0 dX3_init_0 rfl ?_
  refine k_obj C 1 (by decide +kernel) (by decide +kernel) (by decide +kernel) dX3_init_1 ⟨Nat.le_of_ble_eq_true rfl, Nat.le_of_ble_eq_true rfl⟩ ?_
  refine k_aload_n C 4 0 dX3_init_4 rfl ?_
  refine k_iconst C 5 4 dX3_init_5 rfl ?_
  refine k_newi C 6 0 4 (by decide +kernel) rfl (by decide) (by decide +kernel) (by decide) ⟨Nat.le_of_ble_eq_true rfl, Nat.le_of_ble_eq_true rfl⟩ dX3_init_6 (fun q1 => ?_)
  refine k_putF (T := TX3) C hin 8 0 0 tyX3 (.array .int) ((h0, .inr (3, [.ref q1, .int 0, .int 0])) :: (([] : va_W) ++ [(q1, .inl (cI, (4, .inl (fun _ => 0))))])) iX3 tyX3_ok nmX3 rfl rfl rfl (by decide) (by decide +kernel) rfl rfl (by decide +kernel) rfl rfl (Nat.le_of_ble_eq_true rfl) dX3_init_8 ?_
  refine k_aload_n C 11 0 dX3_init_11 rfl ?_
  refine k_bipush C 12 (-4) dX3_init_12 rfl ?_
  refine k_put (T := TX3) C 14 0 1 tyX3 .int ((h0, .inr (3, [.ref q1, .int (-4), .int 0])) :: (([] : va_W) ++ [(q1, .inl (cI, (4, .inl (fun _ => 0))))])) iX3 tyX3_ok nmX3 rfl rfl rfl (by decide) (by decide +kernel) rfl (by decide +kernel) rfl rfl (Nat.le_of_ble_eq_true rfl) dX3_init_14 ?_
  refine k_aload_n C 17 0 dX3_init_17 rfl ?_
  refine k_iconst C 18 0 dX3_init_18 rfl ?_
  refine k_put (T := TX3) C 19 0 2 tyX3 .int ((h0, .inr (3, [.ref q1, .int (-4), .int 0])) :: (([] : va_W) ++ [(q1, .inl (cI, (4, .inl (fun _ => 0))))])) iX3 tyX3_ok nmX3 rfl rfl rfl (by decide) (by decide +kernel) rfl (by decide +kernel) rfl rfl (Nat.le_of_ble_eq_true rfl) dX3_init_19 ?_
  exact k_vret (W0 := (kX3 cI cZ)) C 22 (fun i => if i = 0 then q1 else 0) [0, 1] dX3_init_22 rfl (by decide +kernel) rfl rfl
def kX1 (cI cZ : ClassId) (h0 : Nat) (q : Nat → Nat) : va_W := (h0, .inr (1, [.ref (q 0), .ref (q 1), .ref (q 2), .int 0])) :: ([(q 0, .inl (cI, (6, .inl (fun _ => 0))))] ++ [(q 1, .inl (cI, (6, .inl (fun _ => 0))))] ++ [(q 2, .inl (cI, (6, .inl (fun _ => 0))))])
set_option maxRecDepth 100000 in
set_option maxHeartbeats 4000000 in
theorem tX1_init {l : Launch} {D : va_G} {cI cZ : ClassId} : CtK l D [(cI, .int), (cZ, .boolean)] EK yX1_init wsX1_init ({ frames := 1, cells := 3, slots := 18, locals := 12 } : Room) 1 [.null, .null, .null, .int 0] (kX1 cI cZ) := by
  refine ctK_of (own := RX1) (cc := cX1_init) (n := 1) (by decide) rfl rfl rfl (Nat.le_of_ble_eq_true rfl) (fun h0 hin C => ?_)
  have iX1 : ∀ w ∈ wsX10, w ∈ wsX1_init := fun w h => List.mem_cons_of_mem _ (List.mem_append_right _ (inlX1 w h))
  refine k_aload_n C 0 0 dX1_init_0 rfl ?_
  refine k_obj C 1 (by decide +kernel) (by decide +kernel) (by decide +kernel) dX1_init_1 ⟨Nat.le_of_ble_eq_true rfl, Nat.le_of_ble_eq_true rfl⟩ ?_
  refine k_aload_n C 4 0 dX1_init_4 rfl ?_
  refine k_bipush C 5 6 dX1_init_5 rfl ?_
  refine k_newi C 7 0 6 (by decide +kernel) rfl (by decide) (by decide +kernel) (by decide) ⟨Nat.le_of_ble_eq_true rfl, Nat.le_of_ble_eq_true rfl⟩ dX1_init_7 (fun q1 => ?_)
  refine k_putF (T := TX1) C hin 9 0 0 tyX1 (.array .int) ((h0, .inr (1, [.ref q1, .null, .null, .int 0])) :: (([] : va_W) ++ [(q1, .inl (cI, (6, .inl (fun _ => 0))))])) iX1 tyX1_ok nmX1 rfl rfl rfl (by decide) (by decide +kernel) rfl rfl (by decide +kernel) rfl rfl (Nat.le_of_ble_eq_true rfl) dX1_init_9 ?_
  refine k_aload_n C 12 0 dX1_init_12 rfl ?_
  refine k_bipush C 13 6 dX1_init_13 rfl ?_
  refine k_newi C 15 0 6 (by decide +kernel) rfl (by decide) (by decide +kernel) (by decide) ⟨Nat.le_of_ble_eq_true rfl, Nat.le_of_ble_eq_true rfl⟩ dX1_init_15 (fun q2 => ?_)
  refine k_putF (T := TX1) C hin 17 0 1 tyX1 (.array .int) ((h0, .inr (1, [.ref q1, .ref q2, .null, .int 0])) :: ((([] : va_W) ++ [(q1, .inl (cI, (6, .inl (fun _ => 0))))]) ++ [(q2, .inl (cI, (6, .inl (fun _ => 0))))])) iX1 tyX1_ok nmX1 rfl rfl rfl (by decide) (by decide +kernel) rfl rfl (by decide +kernel) rfl rfl (Nat.le_of_ble_eq_true rfl) dX1_init_17 ?_
  refine k_aload_n C 20 0 dX1_init_20 rfl ?_
  refine k_bipush C 21 6 dX1_init_21 rfl ?_
  refine k_newi C 23 0 6 (by decide +kernel) rfl (by decide) (by decide +kernel) (by decide) ⟨Nat.le_of_ble_eq_true rfl, Nat.le_of_ble_eq_true rfl⟩ dX1_init_23 (fun q3 => ?_)
  refine k_putF (T := TX1) C hin 25 0 2 tyX1 (.array .int) ((h0, .inr (1, [.ref q1, .ref q2, .ref q3, .int 0])) :: (((([] : va_W) ++ [(q1, .inl (cI, (6, .inl (fun _ => 0))))]) ++ [(q2, .inl (cI, (6, .inl (fun _ => 0))))]) ++ [(q3, .inl (cI, (6, .inl (fun _ => 0))))])) iX1 tyX1_ok nmX1 rfl rfl rfl (by decide) (by decide +kernel) rfl rfl (by decide +kernel) rfl rfl (Nat.le_of_ble_eq_true rfl) dX1_init_25 ?_
  refine k_aload_n C 28 0 dX1_init_28 rfl ?_
  refine k_iconst C 29 0 dX1_init_29 rfl ?_
  refine k_put (T := TX1) C 30 0 3 tyX1 .int ((h0, .inr (1, [.ref q1, .ref q2, .ref q3, .int 0])) :: (((([] : va_W) ++ [(q1, .inl (cI, (6, .inl (fun _ => 0))))]) ++ [(q2, .inl (cI, (6, .inl (fun _ => 0))))]) ++ [(q3, .inl (cI, (6, .inl (fun _ => 0))))])) iX1 tyX1_ok nmX1 rfl rfl rfl (by decide) (by decide +kernel) rfl (by decide +kernel) rfl rfl (Nat.le_of_ble_eq_true rfl) dX1_init_30 ?_
  exact k_vret (W0 := (kX1 cI cZ)) C 33 (fun i => if i = 0 then q1 else if i = 1 then q2 else if i = 2 then q3 else 0) [0, 1, 2, 3] dX1_init_33 rfl (by decide +kernel) rfl rfl
def kX4 (cI cZ : ClassId) (h0 : Nat) (q : Nat → Nat) : va_W := (h0, .inr (4, [.ref (q 0), .ref (q 1), .ref (q 2)])) :: ([(q 0, .inl (cI, (160, .inl (fun _ => 0))))] ++ [(q 1, .inl (cI, (4, .inl (fun _ => 0))))] ++ [(q 2, .inl (cI, (4, .inl (upd (upd (upd (upd (fun _ => 0) (Int32.toNatClampNeg 0) (-4)) (Int32.toNatClampNeg 1) (-4)) (Int32.toNatClampNeg 2) (-4)) (Int32.toNatClampNeg 3) (-4)))))])
set_option maxRecDepth 100000 in
set_option maxHeartbeats 4000000 in
theorem tX4_init {l : Launch} {D : va_G} {cI cZ : ClassId} : CtK l D [(cI, .int), (cZ, .boolean)] EK yX4_init wsX4_init ({ frames := 1, cells := 3, slots := 168, locals := 12 } : Room) 4 [.null, .null, .null] (kX4 cI cZ) := by
  refine ctK_of (own := RX4) (cc := cX4_init) (n := 1) (by decide) rfl rfl rfl (Nat.le_of_ble_eq_true rfl) (fun h0 hin C => ?_)
  have iX4 : ∀ w ∈ wsX40, w ∈ wsX4_init := fun w h => List.mem_cons_of_mem _ (List.mem_append_right _ (inlX4 w h))
  refine k_aload_n C 0 0 dX4_init_0 rfl ?_
  refine k_obj C 1 (by decide +kernel) (by decide +kernel) (by decide +kernel) dX4_init_1 ⟨Nat.le_of_ble_eq_true rfl, Nat.le_of_ble_eq_true rfl⟩ ?_
  refine k_aload_n C 4 0 dX4_init_4 rfl ?_
  refine k_sipush C 5 160 dX4_init_5 rfl ?_
  refine k_newi C 8 0 160 (by decide +kernel) rfl (by decide) (by decide +kernel) (by decide) ⟨Nat.le_of_ble_eq_true rfl, Nat.le_of_ble_eq_true rfl⟩ dX4_init_8 (fun q1 => ?_)
  refine k_putF (T := TX4) C hin 10 0 0 tyX4 (.array .int) ((h0, .inr (4, [.ref q1, .null, .null])) :: (([] : va_W) ++ [(q1, .inl (cI, (160, .inl (fun _ => 0))))])) iX4 tyX4_ok nmX4 rfl rfl rfl (by decide) (by decide +kernel) rfl rfl (by decide +kernel) rfl rfl (Nat.le_of_ble_eq_true rfl) dX4_init_10 ?_
  refine k_aload_n C 13 0 dX4_init_13 rfl ?_
  refine k_iconst C 14 4 dX4_init_14 rfl ?_
  refine k_newi C 15 0 4 (by decide +kernel) rfl (by decide) (by decide +kernel) (by decide) ⟨Nat.le_of_ble_eq_true rfl, Nat.le_of_ble_eq_true rfl⟩ dX4_init_15 (fun q2 => ?_)
  refine k_putF (T := TX4) C hin 17 0 1 tyX4 (.array .int) ((h0, .inr (4, [.ref q1, .ref q2, .null])) :: ((([] : va_W) ++ [(q1, .inl (cI, (160, .inl (fun _ => 0))))]) ++ [(q2, .inl (cI, (4, .inl (fun _ => 0))))])) iX4 tyX4_ok nmX4 rfl rfl rfl (by decide) (by decide +kernel) rfl rfl (by decide +kernel) rfl rfl (Nat.le_of_ble_eq_true rfl) dX4_init_17 ?_
  refine k_aload_n C 20 0 dX4_init_20 rfl ?_
  refine k_iconst C 21 4 dX4_init_21 rfl ?_
  refine k_newi C 22 0 4 (by decide +kernel) rfl (by decide) (by decide +kernel) (by decide) ⟨Nat.le_of_ble_eq_true rfl, Nat.le_of_ble_eq_true rfl⟩ dX4_init_22 (fun q3 => ?_)
  refine k_dup C 24 dX4_init_24 rfl ?_
  refine k_iconst C 25 0 dX4_init_25 rfl ?_
  refine k_bipush C 26 (-4) dX4_init_26 rfl ?_
  refine k_iast C 28 3 0 ((h0, .inr (4, [.ref q1, .ref q2, .null])) :: (((([] : va_W) ++ [(q1, .inl (cI, (160, .inl (fun _ => 0))))]) ++ [(q2, .inl (cI, (4, .inl (fun _ => 0))))]) ++ [(q3, .inl (cI, (4, .inl (upd (fun _ => 0) (Int32.toNatClampNeg 0) (-4)))))])) rfl rfl (by decide +kernel) rfl dX4_init_28 ?_
  refine k_dup C 29 dX4_init_29 rfl ?_
  refine k_iconst C 30 1 dX4_init_30 rfl ?_
  refine k_bipush C 31 (-4) dX4_init_31 rfl ?_
  refine k_iast C 33 3 0 ((h0, .inr (4, [.ref q1, .ref q2, .null])) :: (((([] : va_W) ++ [(q1, .inl (cI, (160, .inl (fun _ => 0))))]) ++ [(q2, .inl (cI, (4, .inl (fun _ => 0))))]) ++ [(q3, .inl (cI, (4, .inl (upd (upd (fun _ => 0) (Int32.toNatClampNeg 0) (-4)) (Int32.toNatClampNeg 1) (-4)))))])) rfl rfl (by decide +kernel) rfl dX4_init_33 ?_
  refine k_dup C 34 dX4_init_34 rfl ?_
  refine k_iconst C 35 2 dX4_init_35 rfl ?_
  refine k_bipush C 36 (-4) dX4_init_36 rfl ?_
  refine k_iast C 38 3 0 ((h0, .inr (4, [.ref q1, .ref q2, .null])) :: (((([] : va_W) ++ [(q1, .inl (cI, (160, .inl (fun _ => 0))))]) ++ [(q2, .inl (cI, (4, .inl (fun _ => 0))))]) ++ [(q3, .inl (cI, (4, .inl (upd (upd (upd (fun _ => 0) (Int32.toNatClampNeg 0) (-4)) (Int32.toNatClampNeg 1) (-4)) (Int32.toNatClampNeg 2) (-4)))))])) rfl rfl (by decide +kernel) rfl dX4_init_38 ?_
  refine k_dup C 39 dX4_init_39 rfl ?_
  refine k_iconst C 40 3 dX4_init_40 rfl ?_
  refine k_bipush C 41 (-4) dX4_init_41 rfl ?_
  refine k_iast C 43 3 0 ((h0, .inr (4, [.ref q1, .ref q2, .null])) :: (((([] : va_W) ++ [(q1, .inl (cI, (160, .inl (fun _ => 0))))]) ++ [(q2, .inl (cI, (4, .inl (fun _ => 0))))]) ++ [(q3, .inl (cI, (4, .inl (upd (upd (upd (upd (fun _ => 0) (Int32.toNatClampNeg 0) (-4)) (Int32.toNatClampNeg 1) (-4)) (Int32.toNatClampNeg 2) (-4)) (Int32.toNatClampNeg 3) (-4)))))])) rfl rfl (by decide +kernel) rfl dX4_init_43 ?_
  refine k_putF (T := TX4) C hin 44 0 2 tyX4 (.array .int) ((h0, .inr (4, [.ref q1, .ref q2, .ref q3])) :: (((([] : va_W) ++ [(q1, .inl (cI, (160, .inl (fun _ => 0))))]) ++ [(q2, .inl (cI, (4, .inl (fun _ => 0))))]) ++ [(q3, .inl (cI, (4, .inl (upd (upd (upd (upd (fun _ => 0) (Int32.toNatClampNeg 0) (-4)) (Int32.toNatClampNeg 1) (-4)) (Int32.toNatClampNeg 2) (-4)) (Int32.toNatClampNeg 3) (-4)))))])) iX4 tyX4_ok nmX4 rfl rfl rfl (by decide) (by decide +kernel) rfl rfl (by decide +kernel) rfl rfl (Nat.le_of_ble_eq_true rfl) dX4_init_44 ?_
  exact k_vret (W0 := (kX4 cI cZ)) C 47 (fun i => if i = 0 then q1 else if i = 1 then q2 else if i = 2 then q3 else 0) [0, 1, 2, 3] dX4_init_47 rfl (by decide +kernel) rfl rfl
