/-! decode of a long code: the places are cut by 64 (the kernel's depth) -/
noncomputable def dp64 (n : Nat) : List UInt8 → List UInt8 := Nat.rec (motive := fun _ => List UInt8 → List UInt8) (fun l => l) (fun _ ih l => List.rec (motive := fun _ => List UInt8) [] (fun x r _ => ih (x :: r)) (dpB 64 l)) n
theorem dp64_eq : ∀ (n : Nat) (l : List UInt8), dp64 n l = l.drop (64 * n)
  | 0, _ => rfl
  | n + 1, l => by
    have h : dp64 (n + 1) l = List.rec (motive := fun _ => List UInt8) [] (fun x r _ => dp64 n (x :: r)) (dpB 64 l) := rfl
    rw [h, show 64 * (n + 1) = 64 + 64 * n by omega, ← List.drop_drop, ← dpB_eq 64 l]
    cases dpB 64 l with
    | nil => simp
    | cons x r => exact dp64_eq n (x :: r)
noncomputable def dpF (n : Nat) (l : List UInt8) : List UInt8 := dpB (n % 64) (dp64 (n / 64) l)
theorem dpF_eq (n : Nat) (l : List UInt8) : dpF n l = dpB n l := by
  unfold dpF
  rw [dpB_eq, dp64_eq, dpB_eq, List.drop_drop]
  congr 1
  omega
noncomputable def br1 (c : ByteArray) (pc a : Nat) : Bool := match dpF pc c.data.toList with
  | x :: _ => Nat.beq x.toNat a
  | [] => false
theorem bf1 {c : ByteArray} {pc a : Nat} (h : br1 c pc a = true) : bq1 c pc a = true := by
  unfold br1 at h
  rw [dpF_eq] at h
  exact h
noncomputable def brb (c : ByteArray) (pc a v : Nat) : Bool := match dpF pc c.data.toList with
  | x :: y :: _ => Nat.beq x.toNat a && Nat.beq y.toNat v
  | _ => false
theorem bfb {c : ByteArray} {pc a v : Nat} (h : brb c pc a v = true) : bqb c pc a v = true := by
  unfold brb at h
  rw [dpF_eq] at h
  exact h
noncomputable def brsb (c : ByteArray) (pc a : Nat) (v : Int) : Bool := match dpF pc c.data.toList with
  | x :: y :: _ => Nat.beq x.toNat a && decide (Reader.signed 8 y.toNat = v)
  | _ => false
theorem bfsb {c : ByteArray} {pc a : Nat} {v : Int} (h : brsb c pc a v = true) : bqsb c pc a v = true := by
  unfold brsb at h
  rw [dpF_eq] at h
  exact h
noncomputable def brw (c : ByteArray) (pc a v : Nat) : Bool := match dpF pc c.data.toList with
  | x :: y :: z :: _ => Nat.beq x.toNat a && Nat.beq (y.toNat * 256 + z.toNat) v
  | _ => false
theorem bfw {c : ByteArray} {pc a v : Nat} (h : brw c pc a v = true) : bqw c pc a v = true := by
  unfold brw at h
  rw [dpF_eq] at h
  exact h
noncomputable def brsw (c : ByteArray) (pc a : Nat) (v : Int) : Bool := match dpF pc c.data.toList with
  | x :: y :: z :: _ => Nat.beq x.toNat a && decide (Reader.signed 16 (y.toNat * 256 + z.toNat) = v)
  | _ => false
theorem bfsw {c : ByteArray} {pc a : Nat} {v : Int} (h : brsw c pc a v = true) : bqsw c pc a v = true := by
  unfold brsw at h
  rw [dpF_eq] at h
  exact h
noncomputable def bri (c : ByteArray) (pc a v : Nat) (w : Int) : Bool := match dpF pc c.data.toList with
  | x :: y :: z :: _ => Nat.beq x.toNat a && (Nat.beq y.toNat v && decide (Reader.signed 8 z.toNat = w))
  | _ => false
theorem bfi {c : ByteArray} {pc a v : Nat} {w : Int} (h : bri c pc a v w = true) : bqi c pc a v w = true := by
  unfold bri at h
  rw [dpF_eq] at h
  exact h
