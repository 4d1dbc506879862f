/-! decode, an opcode at a time: what stands at a place of the code is looked at in the list of its bytes -/
noncomputable def dpB (n : Nat) : List UInt8 → List UInt8 := Nat.rec (motive := fun _ => List UInt8 → List UInt8) (fun l => l) (fun _ ih l => List.rec (motive := fun _ => List UInt8) [] (fun _ r _ => ih r) l) n
theorem dpB_eq : ∀ (n : Nat) (l : List UInt8), dpB n l = l.drop n
  | 0, _ => rfl
  | _ + 1, [] => rfl
  | n + 1, _ :: r => dpB_eq n r
theorem dpB_s {n : Nat} {l r : List UInt8} {x : UInt8} (h : dpB n l = x :: r) : dpB (n + 1) l = r := by
  rw [dpB_eq] at h ⊢
  rw [← List.tail_drop, h]
  rfl
theorem u1_run {c : ByteArray} {pc : Nat} {x : UInt8} {r : List UInt8} (h : dpB pc c.data.toList = x :: r) : (Reader.u1 : Reader DecodeError Nat) c pc = .ok (x.toNat, pc + 1) := by
  rw [dpB_eq] at h
  have h1 : c.data[pc]? = some x := by
    rw [← Array.getElem?_toList]
    have h2 : (c.data.toList.drop pc)[0]? = some x := by rw [h]; rfl
    rwa [List.getElem?_drop] at h2
  obtain ⟨h2, h3⟩ := Array.getElem?_eq_some_iff.mp h1
  have h4 : pc < c.size := h2
  have h5 : c[pc] = x := h3
  unfold Reader.u1
  show (dite (pc < c.size) (fun h => (do set (pc + 1); pure (c[pc]).toNat : Reader DecodeError Nat)) (fun _ => throw (HasTruncated.truncated pc))) c pc = _
  rw [dif_pos h4, ← h5]
  rfl
noncomputable def bq1 (c : ByteArray) (pc a : Nat) : Bool := match dpB pc c.data.toList with
  | x :: _ => Nat.beq x.toNat a
  | [] => false
noncomputable def bqb (c : ByteArray) (pc a v : Nat) : Bool := match dpB pc c.data.toList with
  | x :: y :: _ => Nat.beq x.toNat a && Nat.beq y.toNat v
  | _ => false
noncomputable def bqsb (c : ByteArray) (pc a : Nat) (v : Int) : Bool := match dpB pc c.data.toList with
  | x :: y :: _ => Nat.beq x.toNat a && decide (Reader.signed 8 y.toNat = v)
  | _ => false
noncomputable def bqw (c : ByteArray) (pc a v : Nat) : Bool := match dpB pc c.data.toList with
  | x :: y :: z :: _ => Nat.beq x.toNat a && Nat.beq (y.toNat * 256 + z.toNat) v
  | _ => false
noncomputable def bqsw (c : ByteArray) (pc a : Nat) (v : Int) : Bool := match dpB pc c.data.toList with
  | x :: y :: z :: _ => Nat.beq x.toNat a && decide (Reader.signed 16 (y.toNat * 256 + z.toNat) = v)
  | _ => false
noncomputable def bqi (c : ByteArray) (pc a v : Nat) (w : Int) : Bool := match dpB pc c.data.toList with
  | x :: y :: z :: _ => Nat.beq x.toNat a && (Nat.beq y.toNat v && decide (Reader.signed 8 z.toNat = w))
  | _ => false
theorem dec_K {c : ByteArray} {pc b n : Nat} {i : Instr} (K : Nat → Decoder Instr) (hK : Decoder.instr pc = (Reader.u1 >>= K)) (hu : (Reader.u1 : Reader DecodeError Nat) c pc = .ok (b, pc + 1)) (hk : K b c (pc + 1) = .ok (i, pc + (n + 1))) : decode c pc = .ok (i, n + 1) := by
  show Except.bind ((Decoder.instr pc) c pc) (fun r => Except.ok (r.1, r.2 - pc)) = _
  rw [hK]
  show Except.bind (Except.bind ((Reader.u1 : Reader DecodeError Nat) c pc) (fun q => K q.1 c q.2)) (fun r => Except.ok (r.1, r.2 - pc)) = _
  rw [hu]
  show Except.bind (K b c (pc + 1)) (fun r => Except.ok (r.1, r.2 - pc)) = _
  rw [hk]
  show Except.ok (i, pc + (n + 1) - pc) = _
  rw [Nat.add_sub_cancel_left]
theorem dec_0 {c : ByteArray} {pc b : Nat} {i : Instr} (K : Nat → Decoder Instr) (hK : Decoder.instr pc = (Reader.u1 >>= K)) (ha : K b = (Pure.pure i : Decoder Instr)) (h : bq1 c pc b = true) : decode c pc = .ok (i, 1) := by
  unfold bq1 at h
  split at h
  · rename_i x r e
    have e1 := u1_run e
    rw [Nat.eq_of_beq_eq_true h] at e1
    exact dec_K K hK e1 (by rw [ha]; rfl)
  · cases h
theorem dec_b {c : ByteArray} {pc b v : Nat} {f : Nat → Instr} (K : Nat → Decoder Instr) (hK : Decoder.instr pc = (Reader.u1 >>= K)) (ha : K b = (Reader.u1 >>= fun x => Pure.pure (f x))) (h : bqb c pc b v = true) : decode c pc = .ok (f v, 2) := by
  unfold bqb at h
  split at h
  · rename_i x y r e
    simp only [Bool.and_eq_true] at h
    have e1 := u1_run e
    have e2 := u1_run (dpB_s e)
    rw [Nat.eq_of_beq_eq_true h.1] at e1
    rw [Nat.eq_of_beq_eq_true h.2] at e2
    refine dec_K K hK e1 ?_
    rw [ha]
    show Except.bind ((Reader.u1 : Reader DecodeError Nat) c (pc + 1)) (fun q => Except.ok (f q.1, q.2)) = _
    rw [e2]
    rfl
  · cases h
theorem dec_sb {c : ByteArray} {pc b : Nat} {v : Int} {f : Int → Instr} (K : Nat → Decoder Instr) (hK : Decoder.instr pc = (Reader.u1 >>= K)) (ha : K b = (Reader.s1 >>= fun x => Pure.pure (f x))) (h : bqsb c pc b v = true) : decode c pc = .ok (f v, 2) := by
  unfold bqsb at h
  split at h
  · rename_i x y r e
    simp only [Bool.and_eq_true, decide_eq_true_eq] at h
    have e1 := u1_run e
    have e2 := u1_run (dpB_s e)
    rw [Nat.eq_of_beq_eq_true h.1] at e1
    refine dec_K K hK e1 ?_
    rw [ha, ← h.2]
    show Except.bind (Except.bind ((Reader.u1 : Reader DecodeError Nat) c (pc + 1)) (fun q => Except.ok (Reader.signed 8 q.1, q.2))) (fun q => Except.ok (f q.1, q.2)) = _
    rw [e2]
    rfl
  · cases h
theorem u2_run {c : ByteArray} {pc : Nat} {x y : Nat} (h : (Reader.u1 : Reader DecodeError Nat) c pc = .ok (x, pc + 1)) (h2 : (Reader.u1 : Reader DecodeError Nat) c (pc + 1) = .ok (y, pc + 1 + 1)) : (Reader.u2 : Reader DecodeError Nat) c pc = .ok (x * 256 + y, pc + 2) := by
  show Except.bind ((Reader.u1 : Reader DecodeError Nat) c pc) (fun q => Except.bind ((Reader.u1 : Reader DecodeError Nat) c q.2) (fun w => Except.ok (q.1 * 256 + w.1, w.2))) = _
  rw [h]
  show Except.bind ((Reader.u1 : Reader DecodeError Nat) c (pc + 1)) (fun w => Except.ok (x * 256 + w.1, w.2)) = _
  rw [h2]
  rfl
theorem dec_w {c : ByteArray} {pc b v : Nat} {f : Nat → Instr} (K : Nat → Decoder Instr) (hK : Decoder.instr pc = (Reader.u1 >>= K)) (ha : K b = (Reader.u2 >>= fun x => Pure.pure (f x))) (h : bqw c pc b v = true) : decode c pc = .ok (f v, 3) := by
  unfold bqw at h
  split at h
  · rename_i x y z r e
    simp only [Bool.and_eq_true] at h
    have e1 := u1_run e
    have e2 := u2_run (u1_run (dpB_s e)) (u1_run (dpB_s (dpB_s e)))
    rw [Nat.eq_of_beq_eq_true h.1] at e1
    rw [Nat.eq_of_beq_eq_true h.2] at e2
    refine dec_K K hK e1 ?_
    rw [ha]
    show Except.bind ((Reader.u2 : Reader DecodeError Nat) c (pc + 1)) (fun q => Except.ok (f q.1, q.2)) = _
    rw [e2]
    rfl
  · cases h
theorem dec_sw {c : ByteArray} {pc b : Nat} {v : Int} {f : Int → Instr} (K : Nat → Decoder Instr) (hK : Decoder.instr pc = (Reader.u1 >>= K)) (ha : K b = (Reader.s2 >>= fun x => Pure.pure (f x))) (h : bqsw c pc b v = true) : decode c pc = .ok (f v, 3) := by
  unfold bqsw at h
  split at h
  · rename_i x y z r e
    simp only [Bool.and_eq_true, decide_eq_true_eq] at h
    have e1 := u1_run e
    have e2 := u2_run (u1_run (dpB_s e)) (u1_run (dpB_s (dpB_s e)))
    rw [Nat.eq_of_beq_eq_true h.1] at e1
    refine dec_K K hK e1 ?_
    rw [ha, ← h.2]
    show Except.bind (Except.bind ((Reader.u2 : Reader DecodeError Nat) c (pc + 1)) (fun q => Except.ok (Reader.signed 16 q.1, q.2))) (fun q => Except.ok (f q.1, q.2)) = _
    rw [e2]
    rfl
  · cases h
theorem dec_i {c : ByteArray} {pc b v : Nat} {w : Int} {f : Nat → Int → Instr} (K : Nat → Decoder Instr) (hK : Decoder.instr pc = (Reader.u1 >>= K)) (ha : K b = (Reader.u1 >>= fun x => Reader.s1 >>= fun y => Pure.pure (f x y))) (h : bqi c pc b v w = true) : decode c pc = .ok (f v w, 3) := by
  unfold bqi at h
  split at h
  · rename_i x y z r e
    simp only [Bool.and_eq_true, decide_eq_true_eq] at h
    have e1 := u1_run e
    have e2 := u1_run (dpB_s e)
    have e3 := u1_run (dpB_s (dpB_s e))
    rw [Nat.eq_of_beq_eq_true h.1] at e1
    rw [Nat.eq_of_beq_eq_true h.2.1] at e2
    refine dec_K K hK e1 ?_
    rw [ha, ← h.2.2]
    show Except.bind ((Reader.u1 : Reader DecodeError Nat) c (pc + 1)) (fun p => Except.bind (Except.bind ((Reader.u1 : Reader DecodeError Nat) c p.2) (fun q => Except.ok (Reader.signed 8 q.1, q.2))) (fun q => Except.ok (f p.1 q.1, q.2))) = _
    rw [e2]
    show Except.bind (Except.bind ((Reader.u1 : Reader DecodeError Nat) c (pc + 1 + 1)) (fun q => Except.ok (Reader.signed 8 q.1, q.2))) (fun q => Except.ok (f v q.1, q.2)) = _
    rw [e3]
    rfl
  · cases h
theorem od_2 {c : ByteArray} {pc : Nat} (h : bq1 c pc 2 = true) : decode c pc = .ok ((Instr.iconst (-1)), 1) := dec_0 (b := 2) (i := (Instr.iconst (-1))) _ rfl rfl h
theorem od_3 {c : ByteArray} {pc : Nat} (h : bq1 c pc 3 = true) : decode c pc = .ok ((Instr.iconst 0), 1) := dec_0 (b := 3) (i := (Instr.iconst 0)) _ rfl rfl h
theorem od_4 {c : ByteArray} {pc : Nat} (h : bq1 c pc 4 = true) : decode c pc = .ok ((Instr.iconst 1), 1) := dec_0 (b := 4) (i := (Instr.iconst 1)) _ rfl rfl h
theorem od_5 {c : ByteArray} {pc : Nat} (h : bq1 c pc 5 = true) : decode c pc = .ok ((Instr.iconst 2), 1) := dec_0 (b := 5) (i := (Instr.iconst 2)) _ rfl rfl h
theorem od_6 {c : ByteArray} {pc : Nat} (h : bq1 c pc 6 = true) : decode c pc = .ok ((Instr.iconst 3), 1) := dec_0 (b := 6) (i := (Instr.iconst 3)) _ rfl rfl h
theorem od_7 {c : ByteArray} {pc : Nat} (h : bq1 c pc 7 = true) : decode c pc = .ok ((Instr.iconst 4), 1) := dec_0 (b := 7) (i := (Instr.iconst 4)) _ rfl rfl h
theorem od_8 {c : ByteArray} {pc : Nat} (h : bq1 c pc 8 = true) : decode c pc = .ok ((Instr.iconst 5), 1) := dec_0 (b := 8) (i := (Instr.iconst 5)) _ rfl rfl h
theorem od_9 {c : ByteArray} {pc : Nat} (h : bq1 c pc 9 = true) : decode c pc = .ok ((Instr.lconst 0), 1) := dec_0 (b := 9) (i := (Instr.lconst 0)) _ rfl rfl h
theorem od_10 {c : ByteArray} {pc : Nat} (h : bq1 c pc 10 = true) : decode c pc = .ok ((Instr.lconst 1), 1) := dec_0 (b := 10) (i := (Instr.lconst 1)) _ rfl rfl h
theorem od_16 {c : ByteArray} {pc : Nat} {v : Int} (h : bqsb c pc 16 v = true) : decode c pc = .ok ((Instr.bipush) v, 2) := dec_sb (b := 16) (f := fun x => (Instr.bipush) x) _ rfl rfl h
theorem od_17 {c : ByteArray} {pc : Nat} {v : Int} (h : bqsw c pc 17 v = true) : decode c pc = .ok ((Instr.sipush) v, 3) := dec_sw (b := 17) (f := fun x => (Instr.sipush) x) _ rfl rfl h
theorem od_18 {c : ByteArray} {pc : Nat} {v : Nat} (h : bqb c pc 18 v = true) : decode c pc = .ok ((Instr.ldc) v, 2) := dec_b (b := 18) (f := fun x => (Instr.ldc) x) _ rfl rfl h
theorem od_19 {c : ByteArray} {pc : Nat} {v : Nat} (h : bqw c pc 19 v = true) : decode c pc = .ok ((Instr.ldc_w) v, 3) := dec_w (b := 19) (f := fun x => (Instr.ldc_w) x) _ rfl rfl h
theorem od_20 {c : ByteArray} {pc : Nat} {v : Nat} (h : bqw c pc 20 v = true) : decode c pc = .ok ((Instr.ldc2_w) v, 3) := dec_w (b := 20) (f := fun x => (Instr.ldc2_w) x) _ rfl rfl h
theorem od_21 {c : ByteArray} {pc : Nat} {v : Nat} (h : bqb c pc 21 v = true) : decode c pc = .ok ((Instr.iload) v, 2) := dec_b (b := 21) (f := fun x => (Instr.iload) x) _ rfl rfl h
theorem od_22 {c : ByteArray} {pc : Nat} {v : Nat} (h : bqb c pc 22 v = true) : decode c pc = .ok ((Instr.lload) v, 2) := dec_b (b := 22) (f := fun x => (Instr.lload) x) _ rfl rfl h
theorem od_26 {c : ByteArray} {pc : Nat} (h : bq1 c pc 26 = true) : decode c pc = .ok ((Instr.iload_n 0), 1) := dec_0 (b := 26) (i := (Instr.iload_n 0)) _ rfl rfl h
theorem od_27 {c : ByteArray} {pc : Nat} (h : bq1 c pc 27 = true) : decode c pc = .ok ((Instr.iload_n 1), 1) := dec_0 (b := 27) (i := (Instr.iload_n 1)) _ rfl rfl h
theorem od_28 {c : ByteArray} {pc : Nat} (h : bq1 c pc 28 = true) : decode c pc = .ok ((Instr.iload_n 2), 1) := dec_0 (b := 28) (i := (Instr.iload_n 2)) _ rfl rfl h
theorem od_29 {c : ByteArray} {pc : Nat} (h : bq1 c pc 29 = true) : decode c pc = .ok ((Instr.iload_n 3), 1) := dec_0 (b := 29) (i := (Instr.iload_n 3)) _ rfl rfl h
theorem od_30 {c : ByteArray} {pc : Nat} (h : bq1 c pc 30 = true) : decode c pc = .ok ((Instr.lload_n 0), 1) := dec_0 (b := 30) (i := (Instr.lload_n 0)) _ rfl rfl h
theorem od_31 {c : ByteArray} {pc : Nat} (h : bq1 c pc 31 = true) : decode c pc = .ok ((Instr.lload_n 1), 1) := dec_0 (b := 31) (i := (Instr.lload_n 1)) _ rfl rfl h
theorem od_32 {c : ByteArray} {pc : Nat} (h : bq1 c pc 32 = true) : decode c pc = .ok ((Instr.lload_n 2), 1) := dec_0 (b := 32) (i := (Instr.lload_n 2)) _ rfl rfl h
theorem od_33 {c : ByteArray} {pc : Nat} (h : bq1 c pc 33 = true) : decode c pc = .ok ((Instr.lload_n 3), 1) := dec_0 (b := 33) (i := (Instr.lload_n 3)) _ rfl rfl h
theorem od_42 {c : ByteArray} {pc : Nat} (h : bq1 c pc 42 = true) : decode c pc = .ok ((Instr.aload_n 0), 1) := dec_0 (b := 42) (i := (Instr.aload_n 0)) _ rfl rfl h
theorem od_43 {c : ByteArray} {pc : Nat} (h : bq1 c pc 43 = true) : decode c pc = .ok ((Instr.aload_n 1), 1) := dec_0 (b := 43) (i := (Instr.aload_n 1)) _ rfl rfl h
theorem od_44 {c : ByteArray} {pc : Nat} (h : bq1 c pc 44 = true) : decode c pc = .ok ((Instr.aload_n 2), 1) := dec_0 (b := 44) (i := (Instr.aload_n 2)) _ rfl rfl h
theorem od_46 {c : ByteArray} {pc : Nat} (h : bq1 c pc 46 = true) : decode c pc = .ok (Instr.iaload, 1) := dec_0 (b := 46) (i := Instr.iaload) _ rfl rfl h
theorem od_51 {c : ByteArray} {pc : Nat} (h : bq1 c pc 51 = true) : decode c pc = .ok (Instr.baload, 1) := dec_0 (b := 51) (i := Instr.baload) _ rfl rfl h
theorem od_54 {c : ByteArray} {pc : Nat} {v : Nat} (h : bqb c pc 54 v = true) : decode c pc = .ok ((Instr.istore) v, 2) := dec_b (b := 54) (f := fun x => (Instr.istore) x) _ rfl rfl h
theorem od_55 {c : ByteArray} {pc : Nat} {v : Nat} (h : bqb c pc 55 v = true) : decode c pc = .ok ((Instr.lstore) v, 2) := dec_b (b := 55) (f := fun x => (Instr.lstore) x) _ rfl rfl h
theorem od_59 {c : ByteArray} {pc : Nat} (h : bq1 c pc 59 = true) : decode c pc = .ok ((Instr.istore_n 0), 1) := dec_0 (b := 59) (i := (Instr.istore_n 0)) _ rfl rfl h
theorem od_60 {c : ByteArray} {pc : Nat} (h : bq1 c pc 60 = true) : decode c pc = .ok ((Instr.istore_n 1), 1) := dec_0 (b := 60) (i := (Instr.istore_n 1)) _ rfl rfl h
theorem od_61 {c : ByteArray} {pc : Nat} (h : bq1 c pc 61 = true) : decode c pc = .ok ((Instr.istore_n 2), 1) := dec_0 (b := 61) (i := (Instr.istore_n 2)) _ rfl rfl h
theorem od_62 {c : ByteArray} {pc : Nat} (h : bq1 c pc 62 = true) : decode c pc = .ok ((Instr.istore_n 3), 1) := dec_0 (b := 62) (i := (Instr.istore_n 3)) _ rfl rfl h
theorem od_64 {c : ByteArray} {pc : Nat} (h : bq1 c pc 64 = true) : decode c pc = .ok ((Instr.lstore_n 1), 1) := dec_0 (b := 64) (i := (Instr.lstore_n 1)) _ rfl rfl h
theorem od_66 {c : ByteArray} {pc : Nat} (h : bq1 c pc 66 = true) : decode c pc = .ok ((Instr.lstore_n 3), 1) := dec_0 (b := 66) (i := (Instr.lstore_n 3)) _ rfl rfl h
theorem od_76 {c : ByteArray} {pc : Nat} (h : bq1 c pc 76 = true) : decode c pc = .ok ((Instr.astore_n 1), 1) := dec_0 (b := 76) (i := (Instr.astore_n 1)) _ rfl rfl h
theorem od_77 {c : ByteArray} {pc : Nat} (h : bq1 c pc 77 = true) : decode c pc = .ok ((Instr.astore_n 2), 1) := dec_0 (b := 77) (i := (Instr.astore_n 2)) _ rfl rfl h
theorem od_79 {c : ByteArray} {pc : Nat} (h : bq1 c pc 79 = true) : decode c pc = .ok (Instr.iastore, 1) := dec_0 (b := 79) (i := Instr.iastore) _ rfl rfl h
theorem od_84 {c : ByteArray} {pc : Nat} (h : bq1 c pc 84 = true) : decode c pc = .ok (Instr.bastore, 1) := dec_0 (b := 84) (i := Instr.bastore) _ rfl rfl h
theorem od_87 {c : ByteArray} {pc : Nat} (h : bq1 c pc 87 = true) : decode c pc = .ok (Instr.pop, 1) := dec_0 (b := 87) (i := Instr.pop) _ rfl rfl h
theorem od_88 {c : ByteArray} {pc : Nat} (h : bq1 c pc 88 = true) : decode c pc = .ok (Instr.pop2, 1) := dec_0 (b := 88) (i := Instr.pop2) _ rfl rfl h
theorem od_89 {c : ByteArray} {pc : Nat} (h : bq1 c pc 89 = true) : decode c pc = .ok (Instr.dup, 1) := dec_0 (b := 89) (i := Instr.dup) _ rfl rfl h
theorem od_92 {c : ByteArray} {pc : Nat} (h : bq1 c pc 92 = true) : decode c pc = .ok (Instr.dup2, 1) := dec_0 (b := 92) (i := Instr.dup2) _ rfl rfl h
theorem od_96 {c : ByteArray} {pc : Nat} (h : bq1 c pc 96 = true) : decode c pc = .ok (Instr.iadd, 1) := dec_0 (b := 96) (i := Instr.iadd) _ rfl rfl h
theorem od_97 {c : ByteArray} {pc : Nat} (h : bq1 c pc 97 = true) : decode c pc = .ok (Instr.ladd, 1) := dec_0 (b := 97) (i := Instr.ladd) _ rfl rfl h
theorem od_100 {c : ByteArray} {pc : Nat} (h : bq1 c pc 100 = true) : decode c pc = .ok (Instr.isub, 1) := dec_0 (b := 100) (i := Instr.isub) _ rfl rfl h
theorem od_101 {c : ByteArray} {pc : Nat} (h : bq1 c pc 101 = true) : decode c pc = .ok (Instr.lsub, 1) := dec_0 (b := 101) (i := Instr.lsub) _ rfl rfl h
theorem od_104 {c : ByteArray} {pc : Nat} (h : bq1 c pc 104 = true) : decode c pc = .ok (Instr.imul, 1) := dec_0 (b := 104) (i := Instr.imul) _ rfl rfl h
theorem od_105 {c : ByteArray} {pc : Nat} (h : bq1 c pc 105 = true) : decode c pc = .ok (Instr.lmul, 1) := dec_0 (b := 105) (i := Instr.lmul) _ rfl rfl h
theorem od_108 {c : ByteArray} {pc : Nat} (h : bq1 c pc 108 = true) : decode c pc = .ok (Instr.idiv, 1) := dec_0 (b := 108) (i := Instr.idiv) _ rfl rfl h
theorem od_109 {c : ByteArray} {pc : Nat} (h : bq1 c pc 109 = true) : decode c pc = .ok (Instr.ldiv, 1) := dec_0 (b := 109) (i := Instr.ldiv) _ rfl rfl h
theorem od_112 {c : ByteArray} {pc : Nat} (h : bq1 c pc 112 = true) : decode c pc = .ok (Instr.irem, 1) := dec_0 (b := 112) (i := Instr.irem) _ rfl rfl h
theorem od_113 {c : ByteArray} {pc : Nat} (h : bq1 c pc 113 = true) : decode c pc = .ok (Instr.lrem, 1) := dec_0 (b := 113) (i := Instr.lrem) _ rfl rfl h
theorem od_120 {c : ByteArray} {pc : Nat} (h : bq1 c pc 120 = true) : decode c pc = .ok (Instr.ishl, 1) := dec_0 (b := 120) (i := Instr.ishl) _ rfl rfl h
theorem od_122 {c : ByteArray} {pc : Nat} (h : bq1 c pc 122 = true) : decode c pc = .ok (Instr.ishr, 1) := dec_0 (b := 122) (i := Instr.ishr) _ rfl rfl h
theorem od_124 {c : ByteArray} {pc : Nat} (h : bq1 c pc 124 = true) : decode c pc = .ok (Instr.iushr, 1) := dec_0 (b := 124) (i := Instr.iushr) _ rfl rfl h
theorem od_126 {c : ByteArray} {pc : Nat} (h : bq1 c pc 126 = true) : decode c pc = .ok (Instr.iand, 1) := dec_0 (b := 126) (i := Instr.iand) _ rfl rfl h
theorem od_128 {c : ByteArray} {pc : Nat} (h : bq1 c pc 128 = true) : decode c pc = .ok (Instr.ior, 1) := dec_0 (b := 128) (i := Instr.ior) _ rfl rfl h
theorem od_130 {c : ByteArray} {pc : Nat} (h : bq1 c pc 130 = true) : decode c pc = .ok (Instr.ixor, 1) := dec_0 (b := 130) (i := Instr.ixor) _ rfl rfl h
theorem od_132 {c : ByteArray} {pc : Nat} {v : Nat} {w : Int} (h : bqi c pc 132 v w = true) : decode c pc = .ok ((Instr.iinc) v w, 3) := dec_i (b := 132) (f := fun x y => (Instr.iinc) x y) _ rfl rfl h
theorem od_133 {c : ByteArray} {pc : Nat} (h : bq1 c pc 133 = true) : decode c pc = .ok (Instr.i2l, 1) := dec_0 (b := 133) (i := Instr.i2l) _ rfl rfl h
theorem od_145 {c : ByteArray} {pc : Nat} (h : bq1 c pc 145 = true) : decode c pc = .ok (Instr.i2b, 1) := dec_0 (b := 145) (i := Instr.i2b) _ rfl rfl h
theorem od_146 {c : ByteArray} {pc : Nat} (h : bq1 c pc 146 = true) : decode c pc = .ok (Instr.i2c, 1) := dec_0 (b := 146) (i := Instr.i2c) _ rfl rfl h
theorem od_147 {c : ByteArray} {pc : Nat} (h : bq1 c pc 147 = true) : decode c pc = .ok (Instr.i2s, 1) := dec_0 (b := 147) (i := Instr.i2s) _ rfl rfl h
theorem od_148 {c : ByteArray} {pc : Nat} (h : bq1 c pc 148 = true) : decode c pc = .ok (Instr.lcmp, 1) := dec_0 (b := 148) (i := Instr.lcmp) _ rfl rfl h
theorem od_153 {c : ByteArray} {pc : Nat} {v : Int} (h : bqsw c pc 153 v = true) : decode c pc = .ok ((Instr.ifCond .eq) v, 3) := dec_sw (b := 153) (f := fun x => (Instr.ifCond .eq) x) _ rfl rfl h
theorem od_154 {c : ByteArray} {pc : Nat} {v : Int} (h : bqsw c pc 154 v = true) : decode c pc = .ok ((Instr.ifCond .ne) v, 3) := dec_sw (b := 154) (f := fun x => (Instr.ifCond .ne) x) _ rfl rfl h
theorem od_155 {c : ByteArray} {pc : Nat} {v : Int} (h : bqsw c pc 155 v = true) : decode c pc = .ok ((Instr.ifCond .lt) v, 3) := dec_sw (b := 155) (f := fun x => (Instr.ifCond .lt) x) _ rfl rfl h
theorem od_156 {c : ByteArray} {pc : Nat} {v : Int} (h : bqsw c pc 156 v = true) : decode c pc = .ok ((Instr.ifCond .ge) v, 3) := dec_sw (b := 156) (f := fun x => (Instr.ifCond .ge) x) _ rfl rfl h
theorem od_157 {c : ByteArray} {pc : Nat} {v : Int} (h : bqsw c pc 157 v = true) : decode c pc = .ok ((Instr.ifCond .gt) v, 3) := dec_sw (b := 157) (f := fun x => (Instr.ifCond .gt) x) _ rfl rfl h
theorem od_158 {c : ByteArray} {pc : Nat} {v : Int} (h : bqsw c pc 158 v = true) : decode c pc = .ok ((Instr.ifCond .le) v, 3) := dec_sw (b := 158) (f := fun x => (Instr.ifCond .le) x) _ rfl rfl h
theorem od_159 {c : ByteArray} {pc : Nat} {v : Int} (h : bqsw c pc 159 v = true) : decode c pc = .ok ((Instr.if_icmp .eq) v, 3) := dec_sw (b := 159) (f := fun x => (Instr.if_icmp .eq) x) _ rfl rfl h
theorem od_160 {c : ByteArray} {pc : Nat} {v : Int} (h : bqsw c pc 160 v = true) : decode c pc = .ok ((Instr.if_icmp .ne) v, 3) := dec_sw (b := 160) (f := fun x => (Instr.if_icmp .ne) x) _ rfl rfl h
theorem od_161 {c : ByteArray} {pc : Nat} {v : Int} (h : bqsw c pc 161 v = true) : decode c pc = .ok ((Instr.if_icmp .lt) v, 3) := dec_sw (b := 161) (f := fun x => (Instr.if_icmp .lt) x) _ rfl rfl h
theorem od_162 {c : ByteArray} {pc : Nat} {v : Int} (h : bqsw c pc 162 v = true) : decode c pc = .ok ((Instr.if_icmp .ge) v, 3) := dec_sw (b := 162) (f := fun x => (Instr.if_icmp .ge) x) _ rfl rfl h
theorem od_163 {c : ByteArray} {pc : Nat} {v : Int} (h : bqsw c pc 163 v = true) : decode c pc = .ok ((Instr.if_icmp .gt) v, 3) := dec_sw (b := 163) (f := fun x => (Instr.if_icmp .gt) x) _ rfl rfl h
theorem od_164 {c : ByteArray} {pc : Nat} {v : Int} (h : bqsw c pc 164 v = true) : decode c pc = .ok ((Instr.if_icmp .le) v, 3) := dec_sw (b := 164) (f := fun x => (Instr.if_icmp .le) x) _ rfl rfl h
theorem od_167 {c : ByteArray} {pc : Nat} {v : Int} (h : bqsw c pc 167 v = true) : decode c pc = .ok ((Instr.goto) v, 3) := dec_sw (b := 167) (f := fun x => (Instr.goto) x) _ rfl rfl h
theorem od_172 {c : ByteArray} {pc : Nat} (h : bq1 c pc 172 = true) : decode c pc = .ok (Instr.ireturn, 1) := dec_0 (b := 172) (i := Instr.ireturn) _ rfl rfl h
theorem od_173 {c : ByteArray} {pc : Nat} (h : bq1 c pc 173 = true) : decode c pc = .ok (Instr.lreturn, 1) := dec_0 (b := 173) (i := Instr.lreturn) _ rfl rfl h
theorem od_176 {c : ByteArray} {pc : Nat} (h : bq1 c pc 176 = true) : decode c pc = .ok (Instr.areturn, 1) := dec_0 (b := 176) (i := Instr.areturn) _ rfl rfl h
theorem od_177 {c : ByteArray} {pc : Nat} (h : bq1 c pc 177 = true) : decode c pc = .ok (Instr.return_, 1) := dec_0 (b := 177) (i := Instr.return_) _ rfl rfl h
theorem od_178 {c : ByteArray} {pc : Nat} {v : Nat} (h : bqw c pc 178 v = true) : decode c pc = .ok ((Instr.getstatic) v, 3) := dec_w (b := 178) (f := fun x => (Instr.getstatic) x) _ rfl rfl h
theorem od_180 {c : ByteArray} {pc : Nat} {v : Nat} (h : bqw c pc 180 v = true) : decode c pc = .ok ((Instr.getfield) v, 3) := dec_w (b := 180) (f := fun x => (Instr.getfield) x) _ rfl rfl h
theorem od_181 {c : ByteArray} {pc : Nat} {v : Nat} (h : bqw c pc 181 v = true) : decode c pc = .ok ((Instr.putfield) v, 3) := dec_w (b := 181) (f := fun x => (Instr.putfield) x) _ rfl rfl h
theorem od_182 {c : ByteArray} {pc : Nat} {v : Nat} (h : bqw c pc 182 v = true) : decode c pc = .ok ((Instr.invokevirtual) v, 3) := dec_w (b := 182) (f := fun x => (Instr.invokevirtual) x) _ rfl rfl h
theorem od_183 {c : ByteArray} {pc : Nat} {v : Nat} (h : bqw c pc 183 v = true) : decode c pc = .ok ((Instr.invokespecial) v, 3) := dec_w (b := 183) (f := fun x => (Instr.invokespecial) x) _ rfl rfl h
theorem od_184 {c : ByteArray} {pc : Nat} {v : Nat} (h : bqw c pc 184 v = true) : decode c pc = .ok ((Instr.invokestatic) v, 3) := dec_w (b := 184) (f := fun x => (Instr.invokestatic) x) _ rfl rfl h
theorem od_187 {c : ByteArray} {pc : Nat} {v : Nat} (h : bqw c pc 187 v = true) : decode c pc = .ok ((Instr.new) v, 3) := dec_w (b := 187) (f := fun x => (Instr.new) x) _ rfl rfl h
theorem od_190 {c : ByteArray} {pc : Nat} (h : bq1 c pc 190 = true) : decode c pc = .ok (Instr.arraylength, 1) := dec_0 (b := 190) (i := Instr.arraylength) _ rfl rfl h
theorem od_191 {c : ByteArray} {pc : Nat} (h : bq1 c pc 191 = true) : decode c pc = .ok (Instr.athrow, 1) := dec_0 (b := 191) (i := Instr.athrow) _ rfl rfl h
