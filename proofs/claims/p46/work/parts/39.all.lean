section
/-! the two beginnings (by genctor.py) -/
def u0X : St := (fun k => if k = 25 then 1 else if k = 27 then (-4) else 0, fun k => if k = 65 then (upd (upd (upd (upd (fun _ => 0) (Int32.toNatClampNeg 0) (-4)) (Int32.toNatClampNeg 1) (-4)) (Int32.toNatClampNeg 2) (-4)) (Int32.toNatClampNeg 3) (-4)) else fun _ => 0)
def u0M : St := (fun k => 0, fun k => if k = 1 then (upd (upd (upd (upd (fun _ => 0) (Int32.toNatClampNeg 0) 3) (Int32.toNatClampNeg 1) 2) (Int32.toNatClampNeg 2) 1) (Int32.toNatClampNeg 3) 6) else if k = 4 then (upd (upd (upd (upd (upd (upd (upd (upd (upd (upd (upd (upd (fun _ => 0) (Int32.toNatClampNeg 0) 0) (Int32.toNatClampNeg 1) 6) (Int32.toNatClampNeg 2) 9) (Int32.toNatClampNeg 3) 13) (Int32.toNatClampNeg 4) 18) (Int32.toNatClampNeg 5) 23) (Int32.toNatClampNeg 6) 27) (Int32.toNatClampNeg 7) 32) (Int32.toNatClampNeg 8) 36) (Int32.toNatClampNeg 9) 40) (Int32.toNatClampNeg 10) 47) (Int32.toNatClampNeg 11) 53) else if k = 5 then (upd (upd (upd (upd (upd (upd (upd (upd (upd (upd (upd (upd (upd (upd (upd (upd (upd (upd (upd (upd (upd (upd (upd (upd (upd (upd (upd (upd (upd (upd (upd (upd (upd (upd (upd (upd (upd (upd (upd (upd (upd (upd (upd (upd (upd (upd (upd (upd (upd (upd (upd (upd (upd (fun _ => 0) (Int32.toNatClampNeg 0) 116) (Int32.toNatClampNeg 1) 97) (Int32.toNatClampNeg 2) 108) (Int32.toNatClampNeg 3) 108) (Int32.toNatClampNeg 4) 111) (Int32.toNatClampNeg 5) 119) (Int32.toNatClampNeg 6) 119) (Int32.toNatClampNeg 7) 97) (Int32.toNatClampNeg 8) 120) (Int32.toNatClampNeg 9) 98) (Int32.toNatClampNeg 10) 101) (Int32.toNatClampNeg 11) 101) (Int32.toNatClampNeg 12) 115) (Int32.toNatClampNeg 13) 116) (Int32.toNatClampNeg 14) 104) (Int32.toNatClampNeg 15) 105) (Int32.toNatClampNeg 16) 101) (Int32.toNatClampNeg 17) 102) (Int32.toNatClampNeg 18) 102) (Int32.toNatClampNeg 19) 105) (Int32.toNatClampNeg 20) 114) (Int32.toNatClampNeg 21) 115) (Int32.toNatClampNeg 22) 116) (Int32.toNatClampNeg 23) 108) (Int32.toNatClampNeg 24) 111) (Int32.toNatClampNeg 25) 110) (Int32.toNatClampNeg 26) 103) (Int32.toNatClampNeg 27) 115) (Int32.toNatClampNeg 28) 104) (Int32.toNatClampNeg 29) 111) (Int32.toNatClampNeg 30) 114) (Int32.toNatClampNeg 31) 116) (Int32.toNatClampNeg 32) 98) (Int32.toNatClampNeg 33) 97) (Int32.toNatClampNeg 34) 114) (Int32.toNatClampNeg 35) 101) (Int32.toNatClampNeg 36) 99) (Int32.toNatClampNeg 37) 97) (Int32.toNatClampNeg 38) 115) (Int32.toNatClampNeg 39) 101) (Int32.toNatClampNeg 40) 100) (Int32.toNatClampNeg 41) 114) (Int32.toNatClampNeg 42) 97) (Int32.toNatClampNeg 43) 117) (Int32.toNatClampNeg 44) 103) (Int32.toNatClampNeg 45) 104) (Int32.toNatClampNeg 46) 116) (Int32.toNatClampNeg 47) 100) (Int32.toNatClampNeg 48) 111) (Int32.toNatClampNeg 49) 99) (Int32.toNatClampNeg 50) 107) (Int32.toNatClampNeg 51) 101) (Int32.toNatClampNeg 52) 116) else if k = 9 then (upd (upd (upd (upd (fun _ => 0) (Int32.toNatClampNeg 0) (-4)) (Int32.toNatClampNeg 1) (-4)) (Int32.toNatClampNeg 2) (-4)) (Int32.toNatClampNeg 3) (-4)) else fun _ => 0)
def LF : Nat := 2000
end
section
/-! PURE: numbers, and how a pure term is read -/
def b01 (p : Prop) [Decidable p] : Int32 := if p then 1 else 0
theorem b01_0 {α : Type} {p : Prop} [Decidable p] (a b : α) : (if b01 p = 0 then a else b) = if p then b else a := by
  unfold b01
  by_cases h : p <;> simp [h]
theorem z01_b01 {p : Prop} [Decidable p] : z01 (b01 p) = true := by
  unfold b01 z01
  by_cases h : p <;> simp [h]
theorem b01_t {p : Prop} [Decidable p] (h : p) : b01 p = 1 := if_pos h
theorem b01_f {p : Prop} [Decidable p] (h : ¬ p) : b01 p = 0 := if_neg h
theorem gd_t {α : Type} {b : Bool} (o : Option α) (h : b = true) : gd b o = o := if_pos h
theorem bd_s {α β : Type} (r : α) (u : St) (k : α → St → Option β) : bd (some (r, u)) k = k r u := rfl
theorem vl_e {α β : Type} (x : α) (k : α → β) : vl x k = k x := rfl
theorem jn_e {α β : Type} (x : α) (k : α → β) : jn x k = k x := rfl
theorem lp0_s {ρ : Type} (b : (St → Option ρ) → St → Option ρ) (n : Nat) (u : St) : lp0 b (n + 1) u = b (lp0 b n) u := rfl
theorem lq1_s {A ρ : Type} (b : (A → St → Option ρ) → A → St → Option ρ) (n : Nat) (x : A) (u : St) : lq1 b (n + 1) x u = b (lq1 b n) x u := rfl
theorem lq2_s {A B ρ : Type} (b : (A → B → St → Option ρ) → A → B → St → Option ρ) (n : Nat) (x : A) (y : B) (u : St) : lq2 b (n + 1) x y u = b (lq2 b n) x y u := rfl
theorem lq3_s {A B C ρ : Type} (b : (A → B → C → St → Option ρ) → A → B → C → St → Option ρ) (n : Nat) (x : A) (y : B) (z : C) (u : St) : lq3 b (n + 1) x y z u = b (lq3 b n) x y z u := rfl
theorem lq4_s {A B C D ρ : Type} (b : (A → B → C → D → St → Option ρ) → A → B → C → D → St → Option ρ) (n : Nat) (x : A) (y : B) (z : C) (w : D) (u : St) : lq4 b (n + 1) x y z w u = b (lq4 b n) x y z w u := rfl
theorem inb_nI {n N : Nat} (h : n < N) (hN : N < 2147483648) : inb (nI n) N = true := by
  unfold inb
  rw [nI_toInt (by omega)]
  simp
  omega
theorem nz_nI {n : Nat} (h : 0 < n) (hn : n < 2147483648) : nz (nI n) = true := by
  unfold nz
  simp
  exact nI_ne0 h (by omega)
/-- an int in bounds is a small natural -/
theorem nI_in2 {x : Int32} {lo hi : Nat} (h : (lo : Int) ≤ x.toInt ∧ x.toInt ≤ (hi : Int)) (hh : hi < 2147483648) : ∃ n : Nat, lo ≤ n ∧ n ≤ hi ∧ x = nI n := by
  refine ⟨x.toInt.toNat, by omega, by omega, ?_⟩
  apply Int32.toInt_inj.mp
  rw [nI_toInt (by omega)]
  omega
theorem tI64 (x : Int32) : (Int32.toInt64 x).toInt = x.toInt := Int32.toInt_toInt64 x
theorem tI {n : Nat} (h : n < 2147483648) : (nI n).toInt = (n : Int) := nI_toInt (by omega)
theorem cl {n : Nat} (h : n < 2147483648) : (nI n).toNatClampNeg = n := nI_clamp (by omega)
theorem ltI {a b : Nat} (ha : a < 2147483648) (hb : b < 2147483648) : nI a < nI b ↔ a < b := nI_ltI (by omega) (by omega)
theorem leI {a b : Nat} (ha : a < 2147483648) (hb : b < 2147483648) : nI a ≤ nI b ↔ a ≤ b := nI_leI (by omega) (by omega)
theorem eqI {a b : Nat} (ha : a < 2147483648) (hb : b < 2147483648) : nI a = nI b ↔ a = b := nI_eq (by omega) (by omega)
theorem subI {a b : Nat} (h : b ≤ a) : nI a - nI b = nI (a - b) := pk_sub h
theorem m4_lt {n : Nat} (h : n < 2147483648) : ¬ nI n < (-4) ∧ ¬ nI n = (-4) ∧ (-4 : Int32) < nI n := by
  have e : (nI n).toInt = n := tI h
  have e4 : (-4 : Int32).toInt = -4 := by decide
  refine ⟨?_, ?_, ?_⟩
  · rw [Int32.lt_iff_toInt_lt, e, e4]; omega
  · intro q; have := congrArg Int32.toInt q; rw [e, e4] at this; omega
  · rw [Int32.lt_iff_toInt_lt, e, e4]; omega
/-! states read back -/
theorem stf_1 (u : St) (k : Nat) (v : Int32) (j : Nat) : (stf u k v).1 j = if j = k then v else u.1 j := rfl
theorem stf_2 (u : St) (k : Nat) (v : Int32) : (stf u k v).2 = u.2 := rfl
theorem stw_1 (u : St) (k : Nat) (f : Nat → Int32) : (stw u k f).1 = u.1 := rfl
theorem stw_2 (u : St) (k : Nat) (f : Nat → Int32) (j : Nat) : (stw u k f).2 j = if j = k then f else u.2 j := rfl
theorem sta_1 (u : St) (k : Nat) (i v : Int32) : (sta u k i v).1 = u.1 := rfl
theorem sta_2 (u : St) (k : Nat) (i v : Int32) (j : Nat) : (sta u k i v).2 j = if j = k then upd (u.2 k) i.toNatClampNeg v else u.2 j := rfl
theorem stz_1 (u : St) (k : Nat) (i v : Int32) : (stz u k i v).1 = u.1 := rfl
theorem stz_2 (u : St) (k : Nat) (i v : Int32) (j : Nat) : (stz u k i v).2 j = if j = k then upd (u.2 k) i.toNatClampNeg (vp_nar .boolean v) else u.2 j := rfl
theorem upd_s (f : Nat → Int32) (k : Nat) (x : Int32) : upd f k x k = x := if_pos rfl
theorem upd_n {f : Nat → Int32} {k j : Nat} {x : Int32} (h : j ≠ k) : upd f k x j = f j := if_neg h
/-! the smallest of the class's own, and of the reference's -/
theorem lg_lt (x y : Int64) : (lg_cmp x y < 0) ↔ x.toInt < y.toInt := by
  unfold lg_cmp
  by_cases h1 : y < x
  · have := Int64.lt_iff_toInt_lt.mp h1
    rw [if_pos h1]
    constructor
    · intro h; exact absurd h (by decide)
    · intro h; omega
  · have h1' : ¬ y.toInt < x.toInt := fun q => h1 (Int64.lt_iff_toInt_lt.mpr q)
    rw [if_neg h1]
    by_cases h2 : x = y
    · subst h2; simp
    · rw [if_neg h2]
      constructor
      · intro _
        have : x.toInt ≠ y.toInt := fun q => h2 (Int64.toInt_inj.mp q)
        omega
      · intro _; decide
theorem lg_gt (x y : Int64) : (0 < lg_cmp x y) ↔ y.toInt < x.toInt := by
  unfold lg_cmp
  by_cases h1 : y < x
  · have := Int64.lt_iff_toInt_lt.mp h1
    rw [if_pos h1]
    constructor
    · intro _; exact this
    · intro _; decide
  · have h1' : ¬ y.toInt < x.toInt := fun q => h1 (Int64.lt_iff_toInt_lt.mpr q)
    rw [if_neg h1]
    by_cases h2 : x = y
    · subst h2; simp
    · rw [if_neg h2]
      constructor
      · intro h; exact absurd h (by decide)
      · intro h; exact absurd h h1'
theorem X_isIn (F : Nat) (v : Int64) (lo hi : Int32) (u : St) : pX6_isIn F v lo hi u = some (b01 (lo.toInt ≤ v.toInt ∧ v.toInt ≤ hi.toInt), u) := by
  unfold pX6_isIn b01
  simp only [lg_lt, lg_gt, tI64]
  by_cases h1 : v.toInt < lo.toInt
  · rw [if_pos h1, if_neg (by omega)]
  · rw [if_neg h1]
    by_cases h2 : hi.toInt < v.toInt
    · rw [if_pos h2, if_neg (by omega)]
    · rw [if_neg h2, if_pos (by omega)]
theorem M_in (F : Nat) (v lo hi : Int64) (u : St) : pX7_in F v lo hi u = some (b01 (lo.toInt ≤ v.toInt ∧ v.toInt ≤ hi.toInt), u) := by
  unfold pX7_in b01
  simp only [lg_lt, lg_gt]
  by_cases h1 : v.toInt < lo.toInt
  · rw [if_pos h1, if_neg (by omega)]
  · rw [if_neg h1]
    by_cases h2 : hi.toInt < v.toInt
    · rw [if_pos h2, if_neg (by omega)]
    · rw [if_neg h2, if_pos (by omega)]
/-! literals -/
theorem L0 : (0 : Int32) = nI 0 := by decide +kernel
theorem L1 : (1 : Int32) = nI 1 := by decide +kernel
theorem L2 : (2 : Int32) = nI 2 := by decide +kernel
theorem L3 : (3 : Int32) = nI 3 := by decide +kernel
theorem L4 : (4 : Int32) = nI 4 := by decide +kernel
theorem L5 : (5 : Int32) = nI 5 := by decide +kernel
theorem L6 : (6 : Int32) = nI 6 := by decide +kernel
theorem L7 : (7 : Int32) = nI 7 := by decide +kernel
theorem L8 : (8 : Int32) = nI 8 := by decide +kernel
theorem L9 : (9 : Int32) = nI 9 := by decide +kernel
theorem L10 : (10 : Int32) = nI 10 := by decide +kernel
theorem L11 : (11 : Int32) = nI 11 := by decide +kernel
theorem L12 : (12 : Int32) = nI 12 := by decide +kernel
theorem L13 : (13 : Int32) = nI 13 := by decide +kernel
theorem L14 : (14 : Int32) = nI 14 := by decide +kernel
theorem L15 : (15 : Int32) = nI 15 := by decide +kernel
theorem L16 : (16 : Int32) = nI 16 := by decide +kernel
theorem L17 : (17 : Int32) = nI 17 := by decide +kernel
theorem L18 : (18 : Int32) = nI 18 := by decide +kernel
theorem L19 : (19 : Int32) = nI 19 := by decide +kernel
theorem L20 : (20 : Int32) = nI 20 := by decide +kernel
theorem L21 : (21 : Int32) = nI 21 := by decide +kernel
theorem L22 : (22 : Int32) = nI 22 := by decide +kernel
theorem L23 : (23 : Int32) = nI 23 := by decide +kernel
theorem L24 : (24 : Int32) = nI 24 := by decide +kernel
theorem L25 : (25 : Int32) = nI 25 := by decide +kernel
theorem L26 : (26 : Int32) = nI 26 := by decide +kernel
theorem L27 : (27 : Int32) = nI 27 := by decide +kernel
theorem L28 : (28 : Int32) = nI 28 := by decide +kernel
theorem L29 : (29 : Int32) = nI 29 := by decide +kernel
theorem L30 : (30 : Int32) = nI 30 := by decide +kernel
theorem L31 : (31 : Int32) = nI 31 := by decide +kernel
theorem L32 : (32 : Int32) = nI 32 := by decide +kernel
theorem L33 : (33 : Int32) = nI 33 := by decide +kernel
theorem L34 : (34 : Int32) = nI 34 := by decide +kernel
theorem L35 : (35 : Int32) = nI 35 := by decide +kernel
theorem L36 : (36 : Int32) = nI 36 := by decide +kernel
theorem L37 : (37 : Int32) = nI 37 := by decide +kernel
theorem L38 : (38 : Int32) = nI 38 := by decide +kernel
theorem L39 : (39 : Int32) = nI 39 := by decide +kernel
theorem L40 : (40 : Int32) = nI 40 := by decide +kernel
theorem L41 : (41 : Int32) = nI 41 := by decide +kernel
theorem L42 : (42 : Int32) = nI 42 := by decide +kernel
theorem L43 : (43 : Int32) = nI 43 := by decide +kernel
theorem L44 : (44 : Int32) = nI 44 := by decide +kernel
theorem L45 : (45 : Int32) = nI 45 := by decide +kernel
theorem L46 : (46 : Int32) = nI 46 := by decide +kernel
theorem L47 : (47 : Int32) = nI 47 := by decide +kernel
theorem L48 : (48 : Int32) = nI 48 := by decide +kernel
theorem L49 : (49 : Int32) = nI 49 := by decide +kernel
theorem L50 : (50 : Int32) = nI 50 := by decide +kernel
theorem L51 : (51 : Int32) = nI 51 := by decide +kernel
theorem L52 : (52 : Int32) = nI 52 := by decide +kernel
theorem L53 : (53 : Int32) = nI 53 := by decide +kernel
theorem L54 : (54 : Int32) = nI 54 := by decide +kernel
theorem L55 : (55 : Int32) = nI 55 := by decide +kernel
theorem L56 : (56 : Int32) = nI 56 := by decide +kernel
theorem L57 : (57 : Int32) = nI 57 := by decide +kernel
theorem L58 : (58 : Int32) = nI 58 := by decide +kernel
theorem L59 : (59 : Int32) = nI 59 := by decide +kernel
theorem L60 : (60 : Int32) = nI 60 := by decide +kernel
theorem L61 : (61 : Int32) = nI 61 := by decide +kernel
theorem L62 : (62 : Int32) = nI 62 := by decide +kernel
theorem L63 : (63 : Int32) = nI 63 := by decide +kernel
theorem L64 : (64 : Int32) = nI 64 := by decide +kernel
theorem L65 : (65 : Int32) = nI 65 := by decide +kernel
theorem L66 : (66 : Int32) = nI 66 := by decide +kernel
theorem L67 : (67 : Int32) = nI 67 := by decide +kernel
theorem L68 : (68 : Int32) = nI 68 := by decide +kernel
theorem L69 : (69 : Int32) = nI 69 := by decide +kernel
theorem L70 : (70 : Int32) = nI 70 := by decide +kernel
theorem L71 : (71 : Int32) = nI 71 := by decide +kernel
theorem L72 : (72 : Int32) = nI 72 := by decide +kernel
theorem L73 : (73 : Int32) = nI 73 := by decide +kernel
theorem L74 : (74 : Int32) = nI 74 := by decide +kernel
theorem L75 : (75 : Int32) = nI 75 := by decide +kernel
theorem L76 : (76 : Int32) = nI 76 := by decide +kernel
theorem L77 : (77 : Int32) = nI 77 := by decide +kernel
theorem L78 : (78 : Int32) = nI 78 := by decide +kernel
theorem L79 : (79 : Int32) = nI 79 := by decide +kernel
theorem L80 : (80 : Int32) = nI 80 := by decide +kernel
theorem L81 : (81 : Int32) = nI 81 := by decide +kernel
theorem L82 : (82 : Int32) = nI 82 := by decide +kernel
theorem L83 : (83 : Int32) = nI 83 := by decide +kernel
theorem L84 : (84 : Int32) = nI 84 := by decide +kernel
theorem L85 : (85 : Int32) = nI 85 := by decide +kernel
theorem L86 : (86 : Int32) = nI 86 := by decide +kernel
theorem L87 : (87 : Int32) = nI 87 := by decide +kernel
theorem L88 : (88 : Int32) = nI 88 := by decide +kernel
theorem L89 : (89 : Int32) = nI 89 := by decide +kernel
theorem L90 : (90 : Int32) = nI 90 := by decide +kernel
theorem L91 : (91 : Int32) = nI 91 := by decide +kernel
theorem L92 : (92 : Int32) = nI 92 := by decide +kernel
theorem L93 : (93 : Int32) = nI 93 := by decide +kernel
theorem L94 : (94 : Int32) = nI 94 := by decide +kernel
theorem L95 : (95 : Int32) = nI 95 := by decide +kernel
theorem L96 : (96 : Int32) = nI 96 := by decide +kernel
theorem L97 : (97 : Int32) = nI 97 := by decide +kernel
theorem L98 : (98 : Int32) = nI 98 := by decide +kernel
theorem L99 : (99 : Int32) = nI 99 := by decide +kernel
theorem L100 : (100 : Int32) = nI 100 := by decide +kernel
theorem L103 : (103 : Int32) = nI 103 := by decide +kernel
theorem L127 : (127 : Int32) = nI 127 := by decide +kernel
theorem L128 : (128 : Int32) = nI 128 := by decide +kernel
theorem L136 : (136 : Int32) = nI 136 := by decide +kernel
theorem L159 : (159 : Int32) = nI 159 := by decide +kernel
theorem L160 : (160 : Int32) = nI 160 := by decide +kernel
theorem L204 : (204 : Int32) = nI 204 := by decide +kernel
theorem L255 : (255 : Int32) = nI 255 := by decide +kernel
theorem L256 : (256 : Int32) = nI 256 := by decide +kernel
theorem L272 : (272 : Int32) = nI 272 := by decide +kernel
theorem L340 : (340 : Int32) = nI 340 := by decide +kernel
theorem L408 : (408 : Int32) = nI 408 := by decide +kernel
theorem gd_true {α : Type} (o : Option α) : gd true o = o := rfl
theorem b01_n0 {α : Type} {p : Prop} [Decidable p] (a b : α) : (if b01 p = nI 0 then a else b) = if p then b else a := b01_0 a b
theorem fb_bmod0 {z : Int} (h1 : -2147483648 ≤ z) (h2 : z < 2147483648) : z.bmod (2 ^ 32) = z := by
  rw [Int.bmod_eq_of_le (by omega) (by omega)]
theorem ifle {α : Type} {a b : Nat} (ha : a < 2147483648) (hb : b < 2147483648) (x y : α) : (if nI a ≤ nI b then x else y) = if a ≤ b then x else y := by
  by_cases h : a ≤ b
  · rw [if_pos h, if_pos ((leI ha hb).mpr h)]
  · rw [if_neg h, if_neg (fun q => h ((leI ha hb).mp q))]
theorem iflt {α : Type} {a b : Nat} (ha : a < 2147483648) (hb : b < 2147483648) (x y : α) : (if nI a < nI b then x else y) = if a < b then x else y := by
  by_cases h : a < b
  · rw [if_pos h, if_pos ((ltI ha hb).mpr h)]
  · rw [if_neg h, if_neg (fun q => h ((ltI ha hb).mp q))]
theorem ifeq {α : Type} {a b : Nat} (ha : a < 2147483648) (hb : b < 2147483648) (x y : α) : (if nI a = nI b then x else y) = if a = b then x else y := by
  by_cases h : a = b
  · rw [if_pos h, if_pos ((eqI ha hb).mpr h)]
  · rw [if_neg h, if_neg (fun q => h ((eqI ha hb).mp q))]
end
section
/-! PURE: what a hearing is; how both sides hold a court -/
def bn (k : Nat) : Nat := ([3, 2, 1, 6] : List Nat).getD k 0
/-- the strongest draught of a minute, of those that don't stay away (the first n) -/
def stg (P : Nat → Nat) (away : Nat) : Nat → Nat → Nat
  | 0, _ => 0
  | n + 1, m => if away.testBit n = false ∧ P (47 + n) = m then max (stg P away n m) (P (51 + n)) else stg P away n m
def hGo (l0 l1 g0 g1 hb : Nat) : Nat := if hb = 1 then (if l0 < l1 then 1 else 0) else if hb = 2 then (if l0 < l1 then 0 else 1) else if hb = 3 then (if g1 < g0 then 1 else 0) else 0
/-- minute by minute: verdict, minute, lengths -/
def hRun (b0 b1 g0 g1 hb sl : Nat) (S : Nat → Nat) : Nat → Nat → Nat → Nat → Nat × Nat × Nat × Nat
  | 0, m, l0, l1 => (0, m, l0, l1)
  | n + 1, m, l0, l1 =>
    if l0 = 0 ∨ g0 < S m then (if l1 = 0 ∨ g1 < S m then (3, m, l0, l1) else (2, m, l0, l1))
    else if l1 = 0 ∨ g1 < S m then (1, m, l0, l1)
    else if m = sl then (if hGo l0 l1 g0 g1 hb = 0 then 2 else 1, m, l0, l1)
    else hRun b0 b1 g0 g1 hb sl S n (m + 1) (l0 - b0) (l1 - b1)
/-- bounds -/
theorem hRun_bd (b0 b1 g0 g1 hb sl : Nat) (S : Nat → Nat) : ∀ n m l0 l1, m ≤ sl → sl < m + n → 1 ≤ (hRun b0 b1 g0 g1 hb sl S n m l0 l1).1 ∧ (hRun b0 b1 g0 g1 hb sl S n m l0 l1).1 ≤ 3 ∧ (hRun b0 b1 g0 g1 hb sl S n m l0 l1).2.1 ≤ sl ∧ (hRun b0 b1 g0 g1 hb sl S n m l0 l1).2.2.1 ≤ l0 ∧ (hRun b0 b1 g0 g1 hb sl S n m l0 l1).2.2.2 ≤ l1
  | 0, m, l0, l1, h1, h2 => by omega
  | n + 1, m, l0, l1, h1, h2 => by
    unfold hRun
    by_cases c1 : l0 = 0 ∨ g0 < S m
    · rw [if_pos c1]
      by_cases c2 : l1 = 0 ∨ g1 < S m
      · rw [if_pos c2]; simp; omega
      · rw [if_neg c2]; simp; omega
    · rw [if_neg c1]
      by_cases c2 : l1 = 0 ∨ g1 < S m
      · rw [if_pos c2]; simp; omega
      · rw [if_neg c2]
        by_cases c3 : m = sl
        · rw [if_pos c3]
          by_cases c4 : hGo l0 l1 g0 g1 hb = 0
          · rw [if_pos c4]; simp; omega
          · rw [if_neg c4]; simp; omega
        · rw [if_neg c3]
          obtain ⟨g1', g2, g3, g4, g5⟩ := hRun_bd b0 b1 g0 g1 hb sl S n (m + 1) (l0 - b0) (l1 - b1) (by omega) (by omega)
          exact ⟨g1', g2, g3, by omega, by omega⟩
/-- a page: kinds from 0, lengths 8, guards 16, verdicts 24, appealed 28, ended 32 (one more; 0: never), by whom 36 (so), habits 40, slows 43, draughts 46, minutes 47, strengths 51, hearings 55, cases 56, judges 62 -/
def PgOK (c jn : Nat) (P : Nat → Nat) : Prop :=
  P 46 ≤ 4 ∧ P 55 ≤ 6 ∧ (∀ f, f < 2 * c → P f ≤ 3 ∧ P (8 + f) ≤ 99 ∧ P (16 + f) ≤ 9) ∧ (∀ i, i < c → P (24 + i) ≤ 3 ∧ P (28 + i) ≤ 1 ∧ P (32 + i) ≤ 22 ∧ P (36 + i) ≤ 3) ∧ (∀ j, j < jn → P (40 + j) ≤ 3 ∧ 1 ≤ P (43 + j) ∧ P (43 + j) ≤ 9) ∧ (∀ i, i < P 46 → P (47 + i) ≤ 20 ∧ 1 ≤ P (51 + i) ∧ P (51 + i) ≤ 9) ∧ (∀ i, i < P 55 → P (56 + i) < c ∧ P (62 + i) < jn)
def off (n : Nat) : Int32 := if n = 0 then -4 else nI (n - 1)
def CtX (j c jn : Nat) (P : Nat → Nat) (u : St) : Prop :=
  u.1 (4 * j + 0) = nI c ∧ u.1 (4 * j + 1) = nI jn ∧ u.1 (4 * j + 2) = nI (P 46) ∧ u.1 (4 * j + 3) = nI (P 55) ∧
  (∀ f, f < 2 * c → u.2 (13 * j + 0) f = nI (P f) ∧ u.2 (13 * j + 1) f = nI (P (8 + f)) ∧ u.2 (13 * j + 2) f = nI (P (16 + f))) ∧
  (∀ i, i < c → u.2 (13 * j + 3) i = nI (P (24 + i)) ∧ u.2 (13 * j + 4) i = nI (P (28 + i)) ∧ u.2 (13 * j + 5) i = off (P (32 + i)) ∧ u.2 (13 * j + 6) i = off (P (36 + i))) ∧
  (∀ i, i < jn → u.2 (13 * j + 7) i = nI (P (40 + i)) ∧ u.2 (13 * j + 8) i = nI (P (43 + i))) ∧
  (∀ i, i < P 46 → u.2 (13 * j + 9) i = nI (P (47 + i)) ∧ u.2 (13 * j + 10) i = nI (P (51 + i))) ∧
  (∀ i, i < P 55 → u.2 (13 * j + 11) i = nI (P (56 + i)) ∧ u.2 (13 * j + 12) i = nI (P (62 + i)))
def PgM (p : Nat) (P : Nat → Nat) (v : St) : Prop := ∀ k, k < 68 → v.2 0 (68 * p + k) = nI (P k)
/-- the two sides hold the same -/
def RCourt (c jn : Nat) (P : Nat → Nat) (u v : St) : Prop := c ≤ 4 ∧ jn ≤ 3 ∧ PgOK c jn P ∧ CtX 0 c jn P u ∧ v.1 0 = nI c ∧ v.1 1 = nI jn ∧ PgM 0 P v
def RImg (k c jn : Nat) (u v : St) : Prop := (u.2 66 k = 0 ∧ v.2 12 k = 0) ∨ (u.2 66 k = 1 ∧ v.2 12 k = 1 ∧ ∃ P, PgOK c jn P ∧ CtX (k + 1) c jn P u ∧ PgM (k + 1) P v)
def RSeen (c jn : Nat) (u v : St) : Prop := ∃ n, n ≤ 6 ∧ u.1 29 = nI n ∧ v.1 21 = nI n ∧ ∀ i, i < n → ∃ a b d : Nat, a < c ∧ b < jn ∧ 1 ≤ d ∧ d ≤ 3 ∧ u.2 60 i = nI a ∧ u.2 61 i = nI b ∧ u.2 62 i = nI d ∧ v.2 7 (3 * i) = nI a ∧ v.2 7 (3 * i + 1) = nI b ∧ v.2 7 (3 * i + 2) = nI d
def RTape (u v : St) : Prop := ∃ n, n ≤ 160 ∧ u.1 17 = nI n ∧ v.1 7 = nI n ∧ ∀ i, i < n → ∃ b : Nat, b ≤ 127 ∧ u.2 54 i = nI b ∧ v.2 3 i = nI b
def RSheet (k : Nat) (u v : St) : Prop := (u.2 65 k = -4 ∧ v.2 9 k = -4) ∨ ∃ ln n : Nat, ln ≤ 2 ∧ n ≤ 40 ∧ u.2 64 k = nI ln ∧ v.2 9 k = nI ln ∧ u.2 65 k = nI n ∧ v.2 10 k = nI n ∧ ∀ i, i < n → u.2 63 (40 * k + i) = v.2 11 (40 * k + i)
def RConst (v : St) : Prop := v.1 15 = 0 ∧ v.1 17 = 0 ∧ v.2 1 = u0M.2 1 ∧ v.2 4 = u0M.2 4 ∧ v.2 5 = u0M.2 5
/-- the fault as both sides hold it: the same, but behind six hearings, where the class says 5 and the reference 2 of a name -/
def FK (x y : Int32) : Prop := x = y ∨ (x = 5 ∧ y = 2)
def RR (u v : St) : Prop := ∃ (c jn : Nat) (P : Nat → Nat), RCourt c jn P u v ∧ RImg 0 c jn u v ∧ RImg 1 c jn u v ∧ RSeen c jn u v ∧ RTape u v ∧ FK (u.1 18) (v.1 8) ∧ u.1 16 = v.1 22 ∧ (∀ k, k < 4 → RSheet k u v) ∧ RConst v
theorem RR_start : RR u0X u0M := by
  refine ⟨0, 0, fun _ => 0, ⟨by omega, by omega, ?_, ?_, rfl, rfl, ?_⟩, Or.inl ⟨rfl, rfl⟩, Or.inl ⟨rfl, rfl⟩, ⟨0, by omega, rfl, rfl, fun i h => by omega⟩, ⟨0, by omega, rfl, rfl, fun i h => by omega⟩, Or.inl rfl, rfl, ?_, rfl, rfl, rfl, rfl, rfl⟩
  · exact ⟨Nat.zero_le _, Nat.zero_le _, fun f h => absurd h (Nat.not_lt_zero f), fun f h => absurd h (Nat.not_lt_zero f), fun f h => absurd h (Nat.not_lt_zero f), fun f h => absurd h (Nat.not_lt_zero f), fun f h => absurd h (Nat.not_lt_zero f)⟩
  · exact ⟨rfl, rfl, rfl, rfl, fun f h => absurd h (Nat.not_lt_zero f), fun f h => absurd h (Nat.not_lt_zero f), fun f h => absurd h (Nat.not_lt_zero f), fun f h => absurd h (Nat.not_lt_zero f), fun f h => absurd h (Nat.not_lt_zero f)⟩
  · intro k hk
    rfl
  · intro k hk
    match k, hk with
    | 0, _ => exact Or.inl ⟨rfl, rfl⟩
    | 1, _ => exact Or.inl ⟨rfl, rfl⟩
    | 2, _ => exact Or.inl ⟨rfl, rfl⟩
    | 3, _ => exact Or.inl ⟨rfl, rfl⟩
    | k + 4, h => exact absurd h (by omega)
/-- what only scratches leaves the rest -/
def eqX (u u' : St) : Prop := (∀ k, (k < 24 ∨ k = 29) → u'.1 k = u.1 k) ∧ ∀ k, (k < 52 ∨ k = 54 ∨ 60 ≤ k) → u'.2 k = u.2 k
def eqM (v v' : St) : Prop := (∀ i, i < 204 → v'.2 0 i = v.2 0 i) ∧ (v'.1 0 = v.1 0 ∧ v'.1 1 = v.1 1 ∧ v'.1 7 = v.1 7 ∧ v'.1 8 = v.1 8 ∧ v'.1 15 = v.1 15 ∧ v'.1 17 = v.1 17 ∧ v'.1 21 = v.1 21 ∧ v'.1 22 = v.1 22) ∧ (∀ k, (k = 1 ∨ (3 ≤ k ∧ k ≤ 5) ∨ k = 7 ∨ 9 ≤ k) → v'.2 k = v.2 k)
theorem eqX.rf {u : St} : eqX u u := ⟨fun _ _ => rfl, fun _ _ => rfl⟩
theorem eqM.rf {v : St} : eqM v v := ⟨fun _ _ => rfl, ⟨rfl, rfl, rfl, rfl, rfl, rfl, rfl, rfl⟩, fun _ _ => rfl⟩
theorem eqX.tr {u w x : St} (h : eqX u w) (h2 : eqX w x) : eqX u x := ⟨fun k q => (h2.1 k q).trans (h.1 k q), fun k q => (h2.2 k q).trans (h.2 k q)⟩
theorem eqM.tr {u w x : St} (h : eqM u w) (h2 : eqM w x) : eqM u x := by
  obtain ⟨a, ⟨b1, b2, b3, b4, b5, b6, b7, b8⟩, d⟩ := h
  obtain ⟨a', ⟨c1, c2, c3, c4, c5, c6, c7, c8⟩, d'⟩ := h2
  exact ⟨fun i q => (a' i q).trans (a i q), ⟨c1.trans b1, c2.trans b2, c3.trans b3, c4.trans b4, c5.trans b5, c6.trans b6, c7.trans b7, c8.trans b8⟩, fun k q => (d' k q).trans (d k q)⟩
theorem CtX.eq {j c jn : Nat} {P : Nat → Nat} {u u' : St} (hj : j < 4) (h : CtX j c jn P u) (e : eqX u u') : CtX j c jn P u' := by
  obtain ⟨h1, h2, h3, h4, h5, h6, h7, h8, h9⟩ := h
  refine ⟨by rw [e.1 _ (by omega)]; exact h1, by rw [e.1 _ (by omega)]; exact h2, by rw [e.1 _ (by omega)]; exact h3, by rw [e.1 _ (by omega)]; exact h4, ?_, ?_, ?_, ?_, ?_⟩
  · intro f hf; rw [e.2 _ (by omega), e.2 _ (by omega), e.2 _ (by omega)]; exact h5 f hf
  · intro f hf; rw [e.2 _ (by omega), e.2 _ (by omega), e.2 _ (by omega), e.2 _ (by omega)]; exact h6 f hf
  · intro f hf; rw [e.2 _ (by omega), e.2 _ (by omega)]; exact h7 f hf
  · intro f hf; rw [e.2 _ (by omega), e.2 _ (by omega)]; exact h8 f hf
  · intro f hf; rw [e.2 _ (by omega), e.2 _ (by omega)]; exact h9 f hf
theorem PgM.eq {p : Nat} {P : Nat → Nat} {v v' : St} (hp : p < 3) (h : PgM p P v) (e : eqM v v') : PgM p P v' := fun k hk => by
  rw [e.1 _ (by omega)]
  exact h k hk
theorem RR.eq {u v u' v' : St} (h : RR u v) (e : eqX u u') (f : eqM v v') : RR u' v' := by
  obtain ⟨c, jn, P, ⟨h1, h2, h3, h4, h5, h6, h7⟩, i0, i1, hs, ht, hw, htn, hsh, hc⟩ := h
  obtain ⟨f0, ⟨g0, g1, g7, g8, g15, g17, g21, g22⟩, fa⟩ := id f
  have img : ∀ k, k < 2 → RImg k c jn u v → RImg k c jn u' v' := fun k hk q => by
    rcases q with ⟨a, b⟩ | ⟨a, b, Q, q1, q2, q3⟩
    · exact Or.inl ⟨by rw [e.2 66 (by omega)]; exact a, by rw [fa 12 (by omega)]; exact b⟩
    · exact Or.inr ⟨by rw [e.2 66 (by omega)]; exact a, by rw [fa 12 (by omega)]; exact b, Q, q1, q2.eq (by omega) e, q3.eq (by omega) f⟩
  refine ⟨c, jn, P, ⟨h1, h2, h3, h4.eq (by omega) e, g0.trans h5, g1.trans h6, h7.eq (by omega) f⟩, img 0 (by omega) i0, img 1 (by omega) i1, ?_, ?_, ?_, ?_, ?_, ?_⟩
  · obtain ⟨n, a1, a2, a3, a4⟩ := hs
    refine ⟨n, a1, (e.1 29 (by omega)).trans a2, g21.trans a3, fun i hi => ?_⟩
    rw [e.2 60 (by omega), e.2 61 (by omega), e.2 62 (by omega), fa 7 (by omega)]
    exact a4 i hi
  · obtain ⟨n, a1, a2, a3, a4⟩ := ht
    refine ⟨n, a1, (e.1 17 (by omega)).trans a2, g7.trans a3, fun i hi => ?_⟩
    rw [e.2 54 (by omega), fa 3 (by omega)]
    exact a4 i hi
  · rw [e.1 18 (by omega), g8]; exact hw
  · rw [e.1 16 (by omega), g22]; exact htn
  · intro k hk
    have := hsh k hk
    unfold RSheet at this ⊢
    rw [e.2 63 (by omega), e.2 64 (by omega), e.2 65 (by omega), fa 9 (by omega), fa 10 (by omega), fa 11 (by omega)]
    exact this
  · obtain ⟨a1, a2, a3, a4, a5⟩ := hc
    exact ⟨g15.trans a1, g17.trans a2, (fa 1 (by omega)).trans a3, (fa 4 (by omega)).trans a4, (fa 5 (by omega)).trans a5⟩
end
section
/-! PURE: the class's own hearing -/
def eqT (u u' : St) : Prop := (∀ k, (k < 24 ∨ 26 < k) → u'.1 k = u.1 k) ∧ (∀ k, (k < 55 ∨ 58 < k) → u'.2 k = u.2 k)
theorem eqT.rf {u : St} : eqT u u := ⟨fun _ _ => rfl, fun _ _ => rfl⟩
theorem eqT.tr {u w x : St} (h : eqT u w) (h2 : eqT w x) : eqT u x := ⟨fun k q => (h2.1 k q).trans (h.1 k q), fun k q => (h2.2 k q).trans (h.2 k q)⟩
theorem eqT.x {u u' : St} (h : eqT u u') : eqX u u' := ⟨fun k q => h.1 k (by omega), fun k q => h.2 k (by omega)⟩
def TrX (u : St) (k0 l0 g0 k1 l1 g1 hb sl : Nat) (S : Nat → Nat) : Prop :=
  (u.2 55 0 = nI k0 ∧ u.2 55 1 = nI k1) ∧ (u.2 56 0 = nI l0 ∧ u.2 56 1 = nI l1) ∧ (u.2 57 0 = nI g0 ∧ u.2 57 1 = nI g1) ∧ (∀ m, m < 21 → u.2 58 m = nI (S m)) ∧ u.1 24 = nI hb ∧ u.1 25 = nI sl
theorem X_burns (F : Nat) (u : St) {s l g t m : Nat} (hs : s < 2) (h1 : u.2 56 s = nI l) (h2 : u.2 57 s = nI g) (h3 : u.1 26 = nI m) (hm : m < 21) (h4 : u.2 58 m = nI t) (hl : l < 1000) (hg : g < 1000) (ht : t < 1000) : pX5_burnsStill F (nI s) u = some (b01 (0 < l ∧ t ≤ g), u) := by
  unfold pX5_burnsStill
  simp (disch := omega) only [L0, inb_nI, gd_true, cl, h1, h2, h3, h4, leI, ltI]
  by_cases c1 : l ≤ 0
  · rw [if_pos c1, b01_f (by omega)]; rfl
  · rw [if_neg c1]
    by_cases c2 : g < t
    · rw [if_pos c2, b01_f (by omega)]; rfl
    · rw [if_neg c2, b01_t (by omega)]
theorem X_goes (F : Nat) (u : St) {k0 l0 g0 k1 l1 g1 hb sl : Nat} {S : Nat → Nat} (h : TrX u k0 l0 g0 k1 l1 g1 hb sl S) (b1 : l0 < 1000) (b2 : l1 < 1000) (b3 : g0 < 1000) (b4 : g1 < 1000) (b5 : hb < 1000) : pX5_goesTo F u = some (nI (hGo l0 l1 g0 g1 hb), u) := by
  obtain ⟨-, ⟨e1, e2⟩, ⟨e3, e4⟩, -, e5, -⟩ := h
  unfold pX5_goesTo
  simp (disch := omega) only [jn_e, L0, L1, L2, L3, inb_nI, gd_true, cl, e1, e2, e3, e4, e5, leI, eqI, subI]
  have c1 : l0 < l1 ↔ ¬ l1 ≤ l0 := by omega
  have c2 : g1 < g0 ↔ ¬ g0 ≤ g1 := by omega
  simp only [hGo, c1, c2]
  by_cases d0 : l1 ≤ l0 <;> by_cases d1 : hb = 1 <;> by_cases d2 : hb = 2 <;> by_cases d3 : hb = 3 <;> by_cases d4 : g0 ≤ g1 <;> simp [d0, d1, d2, d3, d4]
/-- the end of a hearing, as it stands in its last minute -/
def hEnd (l0 l1 g0 g1 hb t : Nat) : Nat := if l0 = 0 ∨ g0 < t then (if l1 = 0 ∨ g1 < t then 3 else 2) else if l1 = 0 ∨ g1 < t then 1 else if hGo l0 l1 g0 g1 hb = 0 then 2 else 1
theorem X_fin (F : Nat) (u : St) {k0 l0 g0 k1 l1 g1 hb sl m : Nat} {S : Nat → Nat} (h : TrX u k0 l0 g0 k1 l1 g1 hb sl S) (b1 : l0 < 1000) (b2 : l1 < 1000) (b3 : g0 < 1000) (b4 : g1 < 1000) (b5 : hb < 1000) (h3 : u.1 26 = nI m) (hm : m < 21) (b6 : S m < 1000) : jX5_verdictHeld_99 F u = some (nI (hEnd l0 l1 g0 g1 hb (S m)), u) := by
  have hB0 := X_burns F u (s := 0) (by omega) h.2.1.1 h.2.2.1.1 h3 hm (h.2.2.2.1 m hm) b1 b3 b6
  have hB1 := X_burns F u (s := 1) (by omega) h.2.1.2 h.2.2.1.2 h3 hm (h.2.2.2.1 m hm) b2 b4 b6
  have hG := X_goes F u h b1 b2 b3 b4 b5
  unfold jX5_verdictHeld_99
  simp only [jn_e, L0, L1, L2, L3, hB0, hB1, bd_s, b01_n0, hG]
  unfold hEnd
  by_cases c0 : 0 < l0 ∧ S m ≤ g0
  · rw [if_pos c0, if_neg (show ¬ (l0 = 0 ∨ g0 < S m) by omega)]
    by_cases c1 : 0 < l1 ∧ S m ≤ g1
    · rw [if_pos c1, if_neg (show ¬ (l1 = 0 ∨ g1 < S m) by omega)]
      by_cases c2 : hGo l0 l1 g0 g1 hb = 0
      · rw [c2]; simp
      · have : ¬ nI (hGo l0 l1 g0 g1 hb) = nI 0 := by
          rw [eqI (by unfold hGo; split <;> (try split) <;> (try split) <;> (try split) <;> omega) (by omega)]; exact c2
        rw [if_neg this, if_neg c2]
    · rw [if_neg c1, if_pos (show (l1 = 0 ∨ g1 < S m) by omega)]
      simp only [c0, and_self, if_true]
  · rw [if_neg c0, if_pos (show (l0 = 0 ∨ g0 < S m) by omega)]
    by_cases c1 : 0 < l1 ∧ S m ≤ g1
    · rw [if_neg (show ¬ (l1 = 0 ∨ g1 < S m) by omega)]
      simp only [c0, c1, and_self, if_true, if_false]
    · rw [if_pos (show (l1 = 0 ∨ g1 < S m) by omega)]
      simp only [c0, c1, if_false]
end
section
theorem burn_eq {l b : Nat} (hl : l < 1000) (hb : b < 1000) : (if nI 0 < nI l - nI b then nI l - nI b else nI 0) = nI (l - b) := by
  by_cases h : b ≤ l
  · rw [subI h, iflt (by omega) (by omega)]
    by_cases h2 : 0 < l - b
    · rw [if_pos h2]
    · rw [if_neg h2, show l - b = 0 by omega]
  · have e : (nI l - nI b).toInt = (l : Int) - b := by
      rw [Int32.toInt_sub, tI (by omega), tI (by omega)]
      exact fb_bmod0 (by omega) (by omega)
    rw [if_neg, show l - b = 0 by omega]
    rw [Int32.lt_iff_toInt_lt, e, tI (by omega)]
    omega
theorem tab_bn {k : Nat} (h : k ≤ 3) : tabBURNS k = nI (bn k) := by
  match k, h with
  | 0, _ => rfl
  | 1, _ => rfl
  | 2, _ => rfl
  | 3, _ => rfl
  | k + 4, h => omega
theorem bn_bd (k : Nat) : bn k ≤ 6 := by
  unfold bn
  match k with
  | 0 => decide
  | 1 => decide
  | 2 => decide
  | 3 => decide
  | k + 4 => simp
theorem hRun_end (b0 b1 g0 g1 hb sl : Nat) (S : Nat → Nat) (n m l0 l1 : Nat) (h : m = sl ∨ l0 = 0 ∨ g0 < S m ∨ l1 = 0 ∨ g1 < S m) : hRun b0 b1 g0 g1 hb sl S (n + 1) m l0 l1 = (hEnd l0 l1 g0 g1 hb (S m), m, l0, l1) := by
  unfold hRun hEnd
  by_cases c1 : l0 = 0 ∨ g0 < S m
  · by_cases c2 : l1 = 0 ∨ g1 < S m <;> simp [c1, c2]
  · by_cases c2 : l1 = 0 ∨ g1 < S m
    · simp [c1, c2]
    · have c3 : m = sl := by omega
      rw [if_neg c1, if_neg c2, if_pos c3, if_neg c1, if_neg c2]
theorem hRun_on (b0 b1 g0 g1 hb sl : Nat) (S : Nat → Nat) (n m l0 l1 : Nat) (h : ¬ (m = sl ∨ l0 = 0 ∨ g0 < S m ∨ l1 = 0 ∨ g1 < S m)) : hRun b0 b1 g0 g1 hb sl S (n + 1) m l0 l1 = hRun b0 b1 g0 g1 hb sl S n (m + 1) (l0 - b0) (l1 - b1) := by
  rw [hRun, if_neg (by omega), if_neg (by omega), if_neg (by omega)]
theorem X_loop (F : Nat) {k0 g0 k1 g1 hb sl : Nat} {S : Nat → Nat} (a1 : k0 ≤ 3) (a2 : k1 ≤ 3) (b3 : g0 < 1000) (b4 : g1 < 1000) (b5 : hb < 1000) (b6 : ∀ m, S m < 1000) (b7 : sl ≤ 9) : ∀ (n m l0 l1 fuel : Nat) (u : St), n ≤ fuel → TrX u k0 l0 g0 k1 l1 g1 hb sl S → u.1 26 = nI m → m ≤ sl → sl < m + n → l0 < 1000 → l1 < 1000 →
    ∃ u', lp0 (bX5_verdictHeld_5 F (jX5_verdictHeld_99 F)) fuel u = some (nI (hRun (bn k0) (bn k1) g0 g1 hb sl S n m l0 l1).1, u') ∧ TrX u' k0 (hRun (bn k0) (bn k1) g0 g1 hb sl S n m l0 l1).2.2.1 g0 k1 (hRun (bn k0) (bn k1) g0 g1 hb sl S n m l0 l1).2.2.2 g1 hb sl S ∧ u'.1 26 = nI (hRun (bn k0) (bn k1) g0 g1 hb sl S n m l0 l1).2.1 ∧ eqT u u'
  | 0, m, l0, l1, fuel, u, hf, h, h3, hm1, hm2, b1, b2 => by omega
  | n + 1, m, l0, l1, 0, u, hf, h, h3, hm1, hm2, b1, b2 => by omega
  | n + 1, m, l0, l1, fuel + 1, u, hf, h, h3, hm1, hm2, b1, b2 => by
    have hfin := X_fin F u h b1 b2 b3 b4 b5 h3 (by omega) (b6 m)
    have hB0 := X_burns F u (s := 0) (by omega) h.2.1.1 h.2.2.1.1 h3 (by omega) (h.2.2.2.1 m (by omega)) b1 b3 (b6 m)
    have hB1 := X_burns F u (s := 1) (by omega) h.2.1.2 h.2.2.1.2 h3 (by omega) (h.2.2.2.1 m (by omega)) b2 b4 (b6 m)
    have hsl : u.1 25 = nI sl := h.2.2.2.2.2
    by_cases hs : m = sl ∨ l0 = 0 ∨ g0 < S m ∨ l1 = 0 ∨ g1 < S m
    · rw [hRun_end (bn k0) (bn k1) g0 g1 hb sl S n m l0 l1 hs]
      refine ⟨u, ?_, h, h3, eqT.rf⟩
      rw [lp0_s]
      unfold bX5_verdictHeld_5
      simp only [L0, L1, hsl, h3, hB0, hB1, bd_s, b01_n0]
      rw [ifle (by omega) (by omega)]
      by_cases c : sl ≤ m
      · rw [if_pos c]; exact hfin
      · rw [if_neg c]
        by_cases c0 : 0 < l0 ∧ S m ≤ g0
        · rw [if_pos c0, if_neg (show ¬ (0 < l1 ∧ S m ≤ g1) by omega)]; exact hfin
        · rw [if_neg c0]; exact hfin
    · rw [hRun_on (bn k0) (bn k1) g0 g1 hb sl S n m l0 l1 hs]
      have q0 := bn_bd k0
      have q1 := bn_bd k1
      have e : lp0 (bX5_verdictHeld_5 F (jX5_verdictHeld_99 F)) (fuel + 1) u = lp0 (bX5_verdictHeld_5 F (jX5_verdictHeld_99 F)) fuel (stf (sta (sta u 56 (nI 0) (nI (l0 - bn k0))) 56 (nI 1) (nI (l1 - bn k1))) 26 (nI (m + 1))) := by
        rw [lp0_s]
        generalize lp0 (bX5_verdictHeld_5 F (jX5_verdictHeld_99 F)) fuel = self
        unfold bX5_verdictHeld_5
        simp only [L0, L1, hsl, h3, hB0, hB1, bd_s, b01_n0]
        rw [ifle (by omega) (by omega), if_neg (by omega), if_pos (by omega), if_pos (by omega)]
        simp (disch := omega) only [inb_nI, gd_true, cl, h.1.1, h.1.2, h.2.1.1, h.2.1.2, tab_bn, burn_eq, vl_e, sta_2, sta_1, stf_1, Nat.reduceEqDiff, if_true, if_false, upd_n, upd_s, ne_eq, not_false_eq_true, h3, nI_add, L1]
      rw [e]
      obtain ⟨u', g1', g2, g3, g4⟩ := X_loop F a1 a2 b3 b4 b5 b6 b7 n (m + 1) (l0 - bn k0) (l1 - bn k1) fuel (stf (sta (sta u 56 (nI 0) (nI (l0 - bn k0))) 56 (nI 1) (nI (l1 - bn k1))) 26 (nI (m + 1))) (by omega) ⟨h.1, ⟨rfl, rfl⟩, h.2.2.1, h.2.2.2.1, h.2.2.2.2⟩ rfl (by omega) (by omega) (by omega) (by omega)
      refine ⟨u', g1', g2, g3, eqT.tr ⟨fun k hk => ?_, fun k hk => ?_⟩ g4⟩
      · rw [stf_1, if_neg (by omega)]; rfl
      · rw [stf_2, sta_2, if_neg (by omega), sta_2, if_neg (by omega)]
end
section
def only58 (u u' : St) : Prop := u'.1 = u.1 ∧ ∀ k, k ≠ 58 → u'.2 k = u.2 k
theorem X_clear (F : Nat) (J : St → Option (Unit × St)) : ∀ (k m fuel : Nat) (u : St), m + k = 21 → k < fuel → ∃ u', lq1 (bX5_prepare_92 F J) fuel (nI m) u = J u' ∧ (∀ i, m ≤ i → i < 21 → u'.2 58 i = nI 0) ∧ (∀ i, i < m → u'.2 58 i = u.2 58 i) ∧ only58 u u'
  | k, m, 0, u, hm, hf => by omega
  | 0, m, fuel + 1, u, hm, hf => by
    refine ⟨u, ?_, fun i h1 h2 => by omega, fun i h => rfl, rfl, fun k hk => rfl⟩
    rw [lq1_s]
    unfold bX5_prepare_92
    rw [if_pos (show Int32.ofNat 21 ≤ nI m from (leI (a := 21) (by omega) (by omega)).mpr (by omega))]
  | k + 1, m, fuel + 1, u, hm, hf => by
    have e : lq1 (bX5_prepare_92 F J) (fuel + 1) (nI m) u = lq1 (bX5_prepare_92 F J) fuel (nI (m + 1)) (sta u 58 (nI m) (nI 0)) := by
      rw [lq1_s]
      generalize lq1 (bX5_prepare_92 F J) fuel = self
      unfold bX5_prepare_92
      rw [if_neg (show ¬ Int32.ofNat 21 ≤ nI m from fun q => absurd ((leI (a := 21) (by omega) (by omega)).mp q) (by omega))]
      simp (disch := omega) only [inb_nI, gd_true, vl_e, L0, L1, nI_add]
    rw [e]
    obtain ⟨u', g1, g2, g3, g4, g5⟩ := X_clear F J k (m + 1) fuel (sta u 58 (nI m) (nI 0)) (by omega) (by omega)
    refine ⟨u', g1, fun i h1 h2 => ?_, fun i h => ?_, g4.trans rfl, fun j hj => (g5 j hj).trans (by rw [sta_2, if_neg hj])⟩
    · by_cases hi : i = m
      · rw [g3 i (by omega), sta_2, if_pos rfl, cl (by omega), hi, upd_s]
      · exact g2 i (by omega) h2
    · rw [g3 i (by omega), sta_2, if_pos rfl, cl (by omega), upd_n (by omega)]
theorem sh_bit : ∀ aw, aw < 16 → ∀ i, i < 4 → (((nI aw >>> (nI i &&& nI 31)) &&& nI 1) = nI 0 ↔ aw.testBit i = false) := by decide +kernel
theorem X_blows (F : Nat) (u : St) {m t x : Nat} (hm : m < 21) (ht : t < 1000) (hx : x < 1000) (h : u.2 58 m = nI x) : pX5_blows F (nI m) (nI t) u = some ((), sta u 58 (nI m) (nI (max x t))) := by
  unfold pX5_blows
  simp (disch := omega) only [inb_nI, gd_true, vl_e, cl, h, ltI]
  by_cases c : x < t
  · rw [if_pos c, Nat.max_eq_right (by omega)]
  · rw [if_neg c, Nat.max_eq_left (by omega)]
theorem stg_bd {c jn : Nat} {P : Nat → Nat} (h : PgOK c jn P) (aw : Nat) : ∀ n, n ≤ P 46 → ∀ m, stg P aw n m ≤ 9
  | 0, _, m => by unfold stg; omega
  | n + 1, hn, m => by
    have h1 := stg_bd h aw n (by omega) m
    have h2 := (h.2.2.2.2.2.1 n (by omega)).2.2
    unfold stg
    split
    · exact Nat.max_le.mpr ⟨h1, h2⟩
    · exact h1
theorem X_draw (F : Nat) {c jn aw : Nat} {P : Nat → Nat} (hP : PgOK c jn P) (ha : aw < 16) : ∀ (k i fuel : Nat) (u : St), i + k = P 46 → k < fuel → u.1 2 = nI (P 46) → (∀ i, i < P 46 → u.2 9 i = nI (P (47 + i)) ∧ u.2 10 i = nI (P (51 + i))) → (∀ m, m < 21 → u.2 58 m = nI (stg P aw i m)) → ∃ u', lq1 (bX5_prepare_119 F (nI aw)) fuel (nI i) u = some ((), u') ∧ (∀ m, m < 21 → u'.2 58 m = nI (stg P aw (P 46) m)) ∧ only58 u u'
  | k, i, 0, u, hm, hf, e1, e2, e3 => by omega
  | 0, i, fuel + 1, u, hm, hf, e1, e2, e3 => by
    have h4 := hP.1
    refine ⟨u, ?_, fun m h => by rw [e3 m h, show i = P 46 by omega], rfl, fun k hk => rfl⟩
    rw [lq1_s]
    unfold bX5_prepare_119
    rw [e1, if_pos ((leI (by omega) (by omega)).mpr (by omega))]
  | k + 1, i, fuel + 1, u, hm, hf, e1, e2, e3 => by
    have h4 := hP.1
    obtain ⟨h5, h6, h7⟩ := hP.2.2.2.2.2.1 i (by omega)
    have hb := stg_bd hP aw i (by omega) (P (47 + i))
    by_cases c : aw.testBit i = false
    · have e : lq1 (bX5_prepare_119 F (nI aw)) (fuel + 1) (nI i) u = lq1 (bX5_prepare_119 F (nI aw)) fuel (nI (i + 1)) (sta u 58 (nI (P (47 + i))) (nI (max (stg P aw i (P (47 + i))) (P (51 + i))))) := by
        rw [lq1_s]
        generalize lq1 (bX5_prepare_119 F (nI aw)) fuel = self
        unfold bX5_prepare_119
        rw [e1, if_neg (show ¬ nI (P 46) ≤ nI i from fun q => absurd ((leI (by omega) (by omega)).mp q) (by omega))]
        simp only [jn_e, L0, L1, L31]
        rw [if_pos ((sh_bit aw ha i (by omega)).mpr c), cl (by omega), (e2 i (by omega)).1, (e2 i (by omega)).2, X_blows F u (x := stg P aw i (P (47 + i))) (by omega) (by omega) (by omega) (e3 _ (by omega))]
        simp (disch := omega) only [inb_nI, gd_true, bd_s, nI_add]
      rw [e]
      obtain ⟨u', g1, g2, g3, g4⟩ := X_draw F hP ha k (i + 1) fuel (sta u 58 (nI (P (47 + i))) (nI (max (stg P aw i (P (47 + i))) (P (51 + i))))) (by omega) (by omega) e1 e2 (fun m hm => by
        rw [sta_2, if_pos rfl, cl (by omega)]
        by_cases hq : m = P (47 + i)
        · rw [hq, upd_s, stg, if_pos ⟨c, rfl⟩]
        · rw [upd_n hq, e3 m hm, stg, if_neg (fun z => hq z.2.symm)])
      exact ⟨u', g1, g2, g3.trans rfl, fun j hj => (g4 j hj).trans (by rw [sta_2, if_neg hj])⟩
    · have e : lq1 (bX5_prepare_119 F (nI aw)) (fuel + 1) (nI i) u = lq1 (bX5_prepare_119 F (nI aw)) fuel (nI (i + 1)) u := by
        rw [lq1_s]
        generalize lq1 (bX5_prepare_119 F (nI aw)) fuel = self
        unfold bX5_prepare_119
        rw [e1, if_neg (show ¬ nI (P 46) ≤ nI i from fun q => absurd ((leI (by omega) (by omega)).mp q) (by omega))]
        simp only [jn_e, L0, L1, L31]
        rw [if_neg (fun q => c ((sh_bit aw ha i (by omega)).mp q)), nI_add]
      rw [e]
      obtain ⟨u', g1, g2, g3, g4⟩ := X_draw F hP ha k (i + 1) fuel u (by omega) (by omega) e1 e2 (fun m hm => by rw [e3 m hm, stg, if_neg (fun z => c z.1)])
      exact ⟨u', g1, g2, g3, g4⟩
end
section
theorem X_p3 (F : Nat) (J : St → Option (Unit × St)) (self : Int32 → St → Option (Unit × St)) {cc s a b d : Nat} (u : St) (hc : cc < 4) (hs : s < 2) (h0 : u.2 0 (2 * cc + s) = nI a) (h1 : u.2 1 (2 * cc + s) = nI b) (h2 : u.2 2 (2 * cc + s) = nI d) : bX5_prepare_3 F (nI cc) J self (nI s) u = self (nI (s + 1)) (sta (sta (sta u 55 (nI s) (nI a)) 56 (nI s) (nI b)) 57 (nI s) (nI d)) := by
  unfold bX5_prepare_3
  simp only [L2, L1, pk_mul, nI_add]
  rw [if_neg (show ¬ nI 2 ≤ nI s from fun q => absurd ((leI (by omega) (by omega)).mp q) (by omega))]
  simp (disch := omega) only [inb_nI, gd_true, vl_e, cl, sta_2, Nat.reduceEqDiff, if_false, h0, h1, h2]
theorem sta_m (u : St) {k j : Nat} (i v : Int32) (h : j ≠ k) : (sta u k i v).2 j = u.2 j := by rw [sta_2, if_neg h]
theorem sta_h (u : St) (k : Nat) {i : Nat} (hi : i < 2147483648) (v : Int32) (j : Nat) : (sta u k (nI i) v).2 k j = if j = i then v else u.2 k j := by
  rw [sta_2, if_pos rfl, cl hi]
  rfl
def trW (u : St) (k0 l0 g0 k1 l1 g1 : Nat) : St := sta (sta (sta (sta (sta (sta u 55 (nI 0) (nI k0)) 56 (nI 0) (nI l0)) 57 (nI 0) (nI g0)) 55 (nI 1) (nI k1)) 56 (nI 1) (nI l1)) 57 (nI 1) (nI g1)
theorem trW_1 (u : St) (k0 l0 g0 k1 l1 g1 : Nat) : (trW u k0 l0 g0 k1 l1 g1).1 = u.1 := by
  unfold trW
  simp only [sta_1]
theorem trW_o (u : St) (k0 l0 g0 k1 l1 g1 : Nat) {k : Nat} (hk : k < 55 ∨ 57 < k) : (trW u k0 l0 g0 k1 l1 g1).2 k = u.2 k := by
  unfold trW
  simp only [sta_2]
  rw [if_neg (by omega), if_neg (by omega), if_neg (by omega), if_neg (by omega), if_neg (by omega), if_neg (by omega)]
theorem trW_t (u : St) (k0 l0 g0 k1 l1 g1 : Nat) : ((trW u k0 l0 g0 k1 l1 g1).2 55 0 = nI k0 ∧ (trW u k0 l0 g0 k1 l1 g1).2 55 1 = nI k1) ∧ ((trW u k0 l0 g0 k1 l1 g1).2 56 0 = nI l0 ∧ (trW u k0 l0 g0 k1 l1 g1).2 56 1 = nI l1) ∧ ((trW u k0 l0 g0 k1 l1 g1).2 57 0 = nI g0 ∧ (trW u k0 l0 g0 k1 l1 g1).2 57 1 = nI g1) := by
  unfold trW
  simp (disch := omega) only [sta_m, sta_h, Nat.reduceEqDiff, Nat.zero_ne_one, Nat.one_ne_zero, if_true, if_false, and_self]
theorem X_p3e (F : Nat) (J : St → Option (Unit × St)) (self : Int32 → St → Option (Unit × St)) (cc : Nat) (u : St) : bX5_prepare_3 F (nI cc) J self (nI 2) u = J u := by
  unfold bX5_prepare_3
  rw [L2, if_pos (show nI 2 ≤ nI 2 from (leI (by omega) (by omega)).mpr (by omega))]
theorem X_prep1 (F : Nat) (hF : 3 ≤ F) {c jn cc : Nat} {P : Nat → Nat} (x2 x3 : Int32) (u : St) (hX : CtX 0 c jn P u) (hc : cc < c) (hc4 : c ≤ 4) : pX5_prepare F (nI cc) x2 x3 u = jX5_prepare_69 F x2 x3 (trW u (P (2 * cc)) (P (8 + 2 * cc)) (P (16 + 2 * cc)) (P (2 * cc + 1)) (P (8 + (2 * cc + 1))) (P (16 + (2 * cc + 1)))) := by
  obtain ⟨-, -, -, -, q5, -⟩ := hX
  obtain ⟨y0, y1, y2⟩ := q5 (2 * cc) (by omega)
  obtain ⟨z0, z1, z2⟩ := q5 (2 * cc + 1) (by omega)
  obtain ⟨f, hf⟩ : ∃ f, F = f + 1 + 1 + 1 := ⟨F - 3, by omega⟩
  unfold pX5_prepare
  rw [jn_e, L0]
  generalize jX5_prepare_69 F = J
  generalize hq : lq1 (bX5_prepare_3 F (nI cc) (J x2 x3)) F = g
  have hg : g = lq1 (bX5_prepare_3 F (nI cc) (J x2 x3)) (f + 1 + 1 + 1) := by rw [← hq]; exact congrArg _ hf
  rw [hg, lq1_s, X_p3 F _ _ u (by omega) (show 0 < 2 by omega) y0 y1 y2, lq1_s, X_p3 F _ _ _ (by omega) (show 0 + 1 < 2 by omega) (a := P (2 * cc + 1)) (b := P (8 + (2 * cc + 1))) (d := P (16 + (2 * cc + 1))) (by rw [sta_m _ _ _ (by omega), sta_m _ _ _ (by omega), sta_m _ _ _ (by omega)]; exact z0) (by rw [sta_m _ _ _ (by omega), sta_m _ _ _ (by omega), sta_m _ _ _ (by omega)]; exact z1) (by rw [sta_m _ _ _ (by omega), sta_m _ _ _ (by omega), sta_m _ _ _ (by omega)]; exact z2), lq1_s, X_p3e]
  rfl
theorem X_prep2 (F : Nat) (hF : 30 ≤ F) {c jn jj aw : Nat} {P : Nat → Nat} (w : St) (hj3 : jn ≤ 3) (hP : PgOK c jn P) (hj : jj < jn) (ha : aw < 16) (h7 : w.2 7 jj = nI (P (40 + jj))) (h8 : w.2 8 jj = nI (P (43 + jj))) (h2 : w.1 2 = nI (P 46)) (h9 : ∀ i, i < P 46 → w.2 9 i = nI (P (47 + i)) ∧ w.2 10 i = nI (P (51 + i))) :
    ∃ v', jX5_prepare_69 F (nI jj) (nI aw) w = some ((), v') ∧ (∀ m, m < 21 → v'.2 58 m = nI (stg P aw (P 46) m)) ∧ v'.1 24 = nI (P (40 + jj)) ∧ v'.1 25 = nI (P (43 + jj)) ∧ (∀ k, (k < 24 ∨ 26 < k) → v'.1 k = w.1 k) ∧ ∀ k, k ≠ 58 → v'.2 k = w.2 k := by
  unfold jX5_prepare_69
  simp (disch := omega) only [inb_nI, gd_true, vl_e, cl, stf_2, h7, h8, jn_e, L0]
  obtain ⟨v, g1, g2, -, g4, g5⟩ := X_clear F (jX5_prepare_116 F (nI aw)) 21 0 F (stf (stf w 24 (nI (P (40 + jj)))) 25 (nI (P (43 + jj)))) (by omega) (by omega)
  rw [g1]
  unfold jX5_prepare_116
  rw [L0]
  have hd : ∀ k, k ≠ 58 → v.2 k = w.2 k := fun k hk => g5 k hk
  have h4 := hP.1
  obtain ⟨v', k1, k2, k3, k4⟩ := X_draw F hP ha (P 46) 0 F v (by omega) (by omega) (by rw [g4, stf_1, if_neg (by omega), stf_1, if_neg (by omega)]; exact h2) (fun i hi => by rw [hd 9 (by omega), hd 10 (by omega)]; exact h9 i hi) (fun m hm => by rw [g2 m (by omega) hm, stg])
  refine ⟨v', k1, k2, ?_, ?_, fun k hk => ?_, fun k hk => ?_⟩
  · rw [k3, g4, stf_1, if_neg (by omega), stf_1, if_pos rfl]
  · rw [k3, g4, stf_1, if_pos rfl]
  · rw [k3, g4, stf_1, if_neg (by omega), stf_1, if_neg (by omega)]
  · rw [k4 k hk, hd k hk]
theorem X_prepare (F : Nat) (hF : 30 ≤ F) {c jn cc jj aw : Nat} {P : Nat → Nat} (u : St) (hc4 : c ≤ 4) (hj3 : jn ≤ 3) (hP : PgOK c jn P) (hX : CtX 0 c jn P u) (hc : cc < c) (hj : jj < jn) (ha : aw < 16) :
    ∃ u', pX5_prepare F (nI cc) (nI jj) (nI aw) u = some ((), u') ∧ TrX u' (P (2 * cc)) (P (8 + 2 * cc)) (P (16 + 2 * cc)) (P (2 * cc + 1)) (P (8 + (2 * cc + 1))) (P (16 + (2 * cc + 1))) (P (40 + jj)) (P (43 + jj)) (stg P aw (P 46)) ∧ eqT u u' := by
  rw [X_prep1 F (by omega) (nI jj) (nI aw) u hX hc hc4]
  obtain ⟨x1, x2, x3, x4, x5, x6, x7, x8, x9⟩ := hX
  have t := trW_t u (P (2 * cc)) (P (8 + 2 * cc)) (P (16 + 2 * cc)) (P (2 * cc + 1)) (P (8 + (2 * cc + 1))) (P (16 + (2 * cc + 1)))
  have t1 := trW_1 u (P (2 * cc)) (P (8 + 2 * cc)) (P (16 + 2 * cc)) (P (2 * cc + 1)) (P (8 + (2 * cc + 1))) (P (16 + (2 * cc + 1)))
  have wk := fun k => trW_o u (P (2 * cc)) (P (8 + 2 * cc)) (P (16 + 2 * cc)) (P (2 * cc + 1)) (P (8 + (2 * cc + 1))) (P (16 + (2 * cc + 1))) (k := k)
  generalize trW u (P (2 * cc)) (P (8 + 2 * cc)) (P (16 + 2 * cc)) (P (2 * cc + 1)) (P (8 + (2 * cc + 1))) (P (16 + (2 * cc + 1))) = w at *
  obtain ⟨v', k1, k2, k3, k4, k5, k6⟩ := X_prep2 F hF w hj3 hP hj ha (by rw [wk 7 (by omega)]; exact (x7 jj hj).1) (by rw [wk 8 (by omega)]; exact (x7 jj hj).2) (by rw [t1]; exact x3) (fun i hi => by rw [wk 9 (by omega), wk 10 (by omega)]; exact x8 i hi)
  refine ⟨v', k1, ⟨?_, ?_, ?_, k2, k3, k4⟩, fun k hk => by rw [k5 k hk, t1], fun k hk => by rw [k6 k (by omega), wk k (by omega)]⟩
  · rw [k6 55 (by omega)]; exact t.1
  · rw [k6 56 (by omega)]; exact t.2.1
  · rw [k6 57 (by omega)]; exact t.2.2
end
section
/-- a hearing of a page: verdict, minute, lengths -/
def hP (P : Nat → Nat) (S : Nat → Nat) (cc jj : Nat) : Nat × Nat × Nat × Nat := hRun (bn (P (2 * cc))) (bn (P (2 * cc + 1))) (P (16 + 2 * cc)) (P (16 + (2 * cc + 1))) (P (40 + jj)) (P (43 + jj)) S 10 0 (P (8 + 2 * cc)) (P (8 + (2 * cc + 1)))
theorem X_held (F : Nat) (hF : 30 ≤ F) (u : St) {k0 l0 g0 k1 l1 g1 hb sl : Nat} {S : Nat → Nat} (h : TrX u k0 l0 g0 k1 l1 g1 hb sl S) (a1 : k0 ≤ 3) (a2 : k1 ≤ 3) (b1 : l0 < 1000) (b2 : l1 < 1000) (b3 : g0 < 1000) (b4 : g1 < 1000) (b5 : hb < 1000) (b6 : ∀ m, S m < 1000) (b7 : sl ≤ 9) :
    ∃ u', pX5_verdictHeld F u = some (nI (hRun (bn k0) (bn k1) g0 g1 hb sl S 10 0 l0 l1).1, u') ∧ TrX u' k0 (hRun (bn k0) (bn k1) g0 g1 hb sl S 10 0 l0 l1).2.2.1 g0 k1 (hRun (bn k0) (bn k1) g0 g1 hb sl S 10 0 l0 l1).2.2.2 g1 hb sl S ∧ u'.1 26 = nI (hRun (bn k0) (bn k1) g0 g1 hb sl S 10 0 l0 l1).2.1 ∧ eqT u u' := by
  unfold pX5_verdictHeld
  rw [vl_e, jn_e]
  obtain ⟨u', g1', g2, g3, g4⟩ := X_loop F a1 a2 b3 b4 b5 b6 b7 10 0 l0 l1 F (stf u 26 0) (by omega) ⟨h.1, h.2.1, h.2.2.1, h.2.2.2.1, h.2.2.2.2⟩ rfl (by omega) (by omega) b1 b2
  have q : eqT u (stf u 26 0) := ⟨fun k hk => by rw [stf_1, if_neg (by omega)], fun k hk => rfl⟩
  exact ⟨u', g1', g2, g3, q.tr g4⟩
theorem X_now (F : Nat) (hF : 30 ≤ F) {c jn cc jj : Nat} {P : Nat → Nat} (u : St) (hc4 : c ≤ 4) (hj3 : jn ≤ 3) (hPg : PgOK c jn P) (hX : CtX 0 c jn P u) (hc : cc < c) (hj : jj < jn) :
    ∃ u', pX6_verdictNow F (nI cc) (nI jj) u = some (nI (hP P (stg P 0 (P 46)) cc jj).1, u') ∧ u'.2 56 0 = nI (hP P (stg P 0 (P 46)) cc jj).2.2.1 ∧ u'.2 56 1 = nI (hP P (stg P 0 (P 46)) cc jj).2.2.2 ∧ u'.1 26 = nI (hP P (stg P 0 (P 46)) cc jj).2.1 ∧ eqT u u' := by
  obtain ⟨w, g1, g2, g3⟩ := X_prepare F hF u hc4 hj3 hPg hX hc hj (aw := 0) (by omega)
  have q0 := hPg.2.2.1 (2 * cc) (by omega)
  have q1 := hPg.2.2.1 (2 * cc + 1) (by omega)
  have q2 := hPg.2.2.2.2.1 jj hj
  obtain ⟨w', k1, k2, k3, k4⟩ := X_held F hF w g2 q0.1 q1.1 (by omega) (by omega) (by omega) (by omega) (by omega) (fun m => by have := stg_bd hPg 0 (P 46) (Nat.le_refl _) m; omega) q2.2.2
  refine ⟨w', ?_, k2.2.1.1, k2.2.1.2, k3, g3.tr k4⟩
  unfold pX6_verdictNow pX6_prepare
  rw [L0, g1]
  simp only [bd_s]
  rw [k1]
  rfl
end
section
/-! PURE: the reference's hearing -/
/-- the strongest draught of a minute with one more -/
def stm (P : Nat → Nat) (aw mm ms n m : Nat) : Nat := max (if mm = m then ms else 0) (stg P aw n m)
theorem mx_lt {g a b : Nat} : g < max a b ↔ g < a ∨ g < b := by
  rw [Nat.max_def]
  split <;> omega
theorem M_blownL (F : Nat) {p aw mi g : Nat} {P : Nat → Nat} (v : St) (hp : p < 6) (hM : PgM p P v) (ha : aw < 16) (hv : v.1 15 = nI aw) (hm : mi < 100) (hg : g < 1000) (h46 : P 46 ≤ 4) (hb : ∀ i, i < P 46 → P (47 + i) < 1000 ∧ P (51 + i) < 1000) : ∀ (k i fuel : Nat), i + k = P 46 → k < fuel → ∀ (q : Prop) [Decidable q], lq2 (bX7_isBlown_26 F (nI (68 * p)) (nI mi) (nI g)) fuel (b01 (q ∨ g < stg P aw i mi)) (nI i) v = some (b01 (q ∨ g < stg P aw (P 46) mi), v)
  | k, i, 0, h1, h2, q, _ => by omega
  | 0, i, fuel + 1, h1, h2, q, _ => by
    have hi : i = P 46 := by omega
    subst hi
    rw [lq2_s]
    unfold bX7_isBlown_26
    rw [L46, nI_add, inb_nI (by omega) (by omega), gd_true, cl (by omega), hM 46 (by omega), if_pos ((leI (by omega) (by omega)).mpr (Nat.le_refl _)), z01_b01, gd_true]
  | k + 1, i, fuel + 1, h1, h2, q, dq => by
    obtain ⟨b1, b2⟩ := hb i (by omega)
    have e : lq2 (bX7_isBlown_26 F (nI (68 * p)) (nI mi) (nI g)) (fuel + 1) (b01 (q ∨ g < stg P aw i mi)) (nI i) v = lq2 (bX7_isBlown_26 F (nI (68 * p)) (nI mi) (nI g)) fuel (b01 (q ∨ g < stg P aw (i + 1) mi)) (nI (i + 1)) v := by
      rw [lq2_s]
      generalize lq2 (bX7_isBlown_26 F (nI (68 * p)) (nI mi) (nI g)) fuel = self
      unfold bX7_isBlown_26
      simp only [L46, L47, L51, L31, L0, L1, nI_add]
      rw [inb_nI (by omega) (by omega), gd_true, cl (by omega), hM 46 (by omega), if_neg (show ¬ nI (P 46) ≤ nI i from fun z => absurd ((leI (by omega) (by omega)).mp z) (by omega))]
      simp only [jn_e, hv, sh_bit aw ha i (by omega)]
      rw [inb_nI (n := 68 * p + 47 + i) (by omega) (by omega), inb_nI (n := 68 * p + 51 + i) (by omega) (by omega), cl (n := 68 * p + 47 + i) (by omega), cl (n := 68 * p + 51 + i) (by omega), show 68 * p + 47 + i = 68 * p + (47 + i) by omega, show 68 * p + 51 + i = 68 * p + (51 + i) by omega, hM (47 + i) (by omega), hM (51 + i) (by omega)]
      simp only [gd_true, b01_n0, eqI (a := P (47 + i)) (b := mi) (by omega) (by omega), leI (a := P (51 + i)) (b := g) (by omega) (by omega), show (nI 1 = nI 0) = False from eq_false (by decide), show (nI 0 = nI 0) = True from eq_true rfl, if_true, if_false]
      have key : b01 (q ∨ g < stg P aw (i + 1) mi) = if (q ∨ g < stg P aw i mi) ∨ (aw.testBit i = false ∧ P (47 + i) = mi ∧ ¬ P (51 + i) ≤ g) then nI 1 else nI 0 := by
        have t : (q ∨ g < stg P aw (i + 1) mi) ↔ ((q ∨ g < stg P aw i mi) ∨ (aw.testBit i = false ∧ P (47 + i) = mi ∧ ¬ P (51 + i) ≤ g)) := by
          rw [stg]
          by_cases d1 : aw.testBit i = false ∧ P (47 + i) = mi
          · rw [if_pos d1, mx_lt, Nat.not_le]
            constructor
            · rintro (z | z | z)
              · exact Or.inl (Or.inl z)
              · exact Or.inl (Or.inr z)
              · exact Or.inr ⟨d1.1, d1.2, z⟩
            · rintro ((z | z) | z)
              · exact Or.inl z
              · exact Or.inr (Or.inl z)
              · exact Or.inr (Or.inr z.2.2)
          · rw [if_neg d1]
            constructor
            · exact Or.inl
            · rintro (z | z)
              · exact z
              · exact absurd ⟨z.1, z.2.1⟩ d1
        unfold b01
        by_cases z : (q ∨ g < stg P aw i mi) ∨ (aw.testBit i = false ∧ P (47 + i) = mi ∧ ¬ P (51 + i) ≤ g)
        · rw [if_pos (t.mpr z), if_pos z]; rfl
        · rw [if_neg (fun y => z (t.mp y)), if_neg z]; rfl
      rw [key]
      by_cases c0 : q ∨ g < stg P aw i mi <;> by_cases c1 : aw.testBit i = false <;> by_cases c2 : P (47 + i) = mi <;> by_cases c3 : P (51 + i) ≤ g <;> simp only [c0, c1, c2, c3, if_true, if_false, true_or, or_true, false_or, or_false, true_and, and_true, false_and, and_false, not_true_eq_false, not_false_eq_true, Bool.true_eq_false, ite_self]
    rw [e]
    exact M_blownL F v hp hM ha hv hm hg h46 hb k (i + 1) fuel (by omega) (by omega) q
theorem M_blown (F : Nat) (hF : 30 ≤ F) {p aw mm ms mi g : Nat} {P : Nat → Nat} (v : St) (hp : p < 6) (hM : PgM p P v) (ha : aw < 16) (hv : v.1 15 = nI aw) (h16 : ms = 0 ∨ v.1 16 = nI mm) (h17 : v.1 17 = nI ms) (hmm : mm < 1000) (hms : ms < 1000) (hm : mi < 100) (hg : g < 1000) (h46 : P 46 ≤ 4) (hb : ∀ i, i < P 46 → P (47 + i) < 1000 ∧ P (51 + i) < 1000) : pX7_isBlown F (nI (68 * p)) (nI mi) (nI g) v = some (b01 (g < stm P aw mm ms (P 46) mi), v) := by
  have key := M_blownL F v hp hM ha hv hm hg h46 hb (P 46) 0 F (by omega) (by omega)
  have fin : ∀ (q : Prop) [Decidable q], b01 (q ∨ g < stg P aw 0 mi) = b01 q := fun q _ => by
    unfold stg b01
    by_cases c : q <;> simp [c]
  unfold pX7_isBlown
  simp only [jn_e, L0, L1, h17]
  rw [ifle (by omega) (by omega)]
  by_cases c1 : ms ≤ g
  · rw [if_pos c1]
    have := key False
    rw [fin False] at this
    rw [show nI 0 = b01 False from rfl]
    rw [show (b01 False : Int32) = nI 0 from rfl] at this ⊢
    rw [this]
    congr 2
    unfold b01 stm
    have : (False ∨ g < stg P aw (P 46) mi) ↔ g < max (if mm = mi then ms else 0) (stg P aw (P 46) mi) := by
      rw [mx_lt]
      constructor
      · rintro (z | z)
        · exact z.elim
        · exact Or.inr z
      · rintro (z | z)
        · split at z <;> omega
        · exact Or.inr z
    simp only [this]
  · rw [if_neg c1]
    have h16' : v.1 16 = nI mm := h16.resolve_left (by omega)
    rw [h16', ifeq (by omega) (by omega)]
    by_cases c2 : mm = mi
    · rw [if_pos c2]
      have := key True
      rw [fin True] at this
      rw [show (b01 True : Int32) = nI 1 from rfl] at this
      rw [this]
      congr 2
      rw [b01_t (Or.inl trivial), b01_t]
      unfold stm
      rw [if_pos c2, mx_lt]
      exact Or.inl (by omega)
    · rw [if_neg c2]
      have := key False
      rw [fin False] at this
      rw [show (b01 False : Int32) = nI 0 from rfl] at this
      rw [this]
      congr 2
      unfold b01 stm
      have : (False ∨ g < stg P aw (P 46) mi) ↔ g < max (if mm = mi then ms else 0) (stg P aw (P 46) mi) := by
        rw [if_neg c2, mx_lt]
        constructor
        · rintro (z | z)
          · exact z.elim
          · exact Or.inr z
        · rintro (z | z)
          · omega
          · exact Or.inr z
      simp only [this]
end
section
/-- what stands around a page while it is heard -/
def MEnv (aw mm ms : Nat) (v : St) : Prop := aw < 16 ∧ v.1 15 = nI aw ∧ (ms = 0 ∨ v.1 16 = nI mm) ∧ v.1 17 = nI ms ∧ mm < 1000 ∧ ms < 1000 ∧ v.2 1 = u0M.2 1
theorem M_out (F : Nat) (hF : 30 ≤ F) {p aw mm ms mi f : Nat} {P : Nat → Nat} (v : St) (hp : p < 6) (hM : PgM p P v) (hE : MEnv aw mm ms v) (hm : mi < 100) (hf : f < 8) (b1 : P (8 + f) < 1000) (b2 : P (16 + f) < 1000) (h46 : P 46 ≤ 4) (hb : ∀ i, i < P 46 → P (47 + i) < 1000 ∧ P (51 + i) < 1000) : pX7_isOut F (nI (68 * p)) (nI f) (nI mi) v = some (b01 (P (8 + f) = 0 ∨ P (16 + f) < stm P aw mm ms (P 46) mi), v) := by
  obtain ⟨ha, hv, h16, h17, hmm, hms, -⟩ := hE
  have key := M_blown F hF (g := P (16 + f)) v hp hM ha hv h16 h17 hmm hms hm b2 h46 hb
  unfold pX7_isOut
  simp only [L8, L16, L0, L1, nI_add]
  rw [inb_nI (by omega) (by omega), gd_true, inb_nI (by omega) (by omega), gd_true, cl (by omega), cl (by omega), show 68 * p + 8 + f = 68 * p + (8 + f) by omega, show 68 * p + 16 + f = 68 * p + (16 + f) by omega, hM (8 + f) (by omega), hM (16 + f) (by omega), ifeq (by omega) (by omega), key]
  simp only [bd_s, b01_n0]
  by_cases c1 : P (8 + f) = 0
  · rw [if_pos c1, b01_t (Or.inl c1)]; rfl
  · rw [if_neg c1]
    by_cases c2 : P (16 + f) < stm P aw mm ms (P 46) mi
    · rw [if_pos c2, b01_t (Or.inr c2)]; rfl
    · rw [if_neg c2, b01_f (by rintro (z | z); exact c1 z; exact c2 z)]; rfl
theorem M_goes (F : Nat) {p cc jj : Nat} {P : Nat → Nat} (v : St) (hp : p < 6) (hM : PgM p P v) (hc : cc < 4) (hj : jj < 3) (b1 : P (8 + 2 * cc) < 1000) (b2 : P (8 + (2 * cc + 1)) < 1000) (b3 : P (16 + 2 * cc) < 1000) (b4 : P (16 + (2 * cc + 1)) < 1000) (b5 : P (40 + jj) ≤ 3) : pX7_goesTo F (nI (68 * p)) (nI cc) (nI jj) v = some (nI (hGo (P (8 + 2 * cc)) (P (8 + (2 * cc + 1))) (P (16 + 2 * cc)) (P (16 + (2 * cc + 1))) (P (40 + jj))), v) := by
  unfold pX7_goesTo
  simp only [L8, L16, L0, L1, L2, L40, nI_add, pk_mul, vl_e, jn_e]
  rw [inb_nI (n := 68 * p + 8 + 2 * cc + 1) (by omega) (by omega), inb_nI (n := 68 * p + 8 + 2 * cc) (by omega) (by omega), inb_nI (n := 68 * p + 40 + jj) (by omega) (by omega), inb_nI (n := 68 * p + 16 + 2 * cc + 1) (by omega) (by omega), inb_nI (n := 68 * p + 16 + 2 * cc) (by omega) (by omega)]
  simp only [gd_true]
  rw [cl (n := 68 * p + 8 + 2 * cc + 1) (by omega), cl (n := 68 * p + 8 + 2 * cc) (by omega), cl (n := 68 * p + 40 + jj) (by omega), cl (n := 68 * p + 16 + 2 * cc + 1) (by omega), cl (n := 68 * p + 16 + 2 * cc) (by omega)]
  rw [show 68 * p + 8 + 2 * cc + 1 = 68 * p + (8 + (2 * cc + 1)) by omega, show 68 * p + 8 + 2 * cc = 68 * p + (8 + 2 * cc) by omega, show 68 * p + 40 + jj = 68 * p + (40 + jj) by omega, show 68 * p + 16 + 2 * cc + 1 = 68 * p + (16 + (2 * cc + 1)) by omega, show 68 * p + 16 + 2 * cc = 68 * p + (16 + 2 * cc) by omega]
  rw [hM _ (by omega), hM _ (by omega), hM _ (by omega), hM _ (by omega), hM _ (by omega)]
  generalize P (8 + 2 * cc) = l0 at *
  generalize P (8 + (2 * cc + 1)) = l1 at *
  generalize P (16 + 2 * cc) = g0 at *
  generalize P (16 + (2 * cc + 1)) = g1 at *
  generalize P (40 + jj) = hb at *
  simp (disch := omega) only [leI, eqI, subI]
  have c1 : l0 < l1 ↔ ¬ l1 ≤ l0 := by omega
  have c2 : g1 < g0 ↔ ¬ g0 ≤ g1 := by omega
  simp only [hGo, c1, c2]
  have hh : hb = 0 ∨ hb = 1 ∨ hb = 2 ∨ hb = 3 := by omega
  rcases hh with rfl | rfl | rfl | rfl <;> by_cases d0 : l1 ≤ l0 <;> by_cases d4 : g0 ≤ g1 <;> simp [d0, d4]
theorem M_bn {v : St} (h : v.2 1 = u0M.2 1) {k : Nat} (hk : k ≤ 3) : v.2 1 k = nI (bn k) := by
  rw [h]
  match k, hk with
  | 0, _ => rfl
  | 1, _ => rfl
  | 2, _ => rfl
  | 3, _ => rfl
  | k + 4, h => omega
theorem burn_eq2 {l b : Nat} (hl : l < 1000) (hb : b < 1000) {α : Type} (f : Int32 → α) : (if nI 0 ≤ nI l - nI b then f (nI l - nI b) else f (nI 0)) = f (nI (l - b)) := by
  by_cases h : b ≤ l
  · rw [subI h, if_pos ((leI (by omega) (by omega)).mpr (by omega))]
  · have e : (nI l - nI b).toInt = (l : Int) - b := by
      rw [Int32.toInt_sub, tI (by omega), tI (by omega)]
      exact fb_bmod0 (by omega) (by omega)
    rw [if_neg, show l - b = 0 by omega]
    rw [Int32.le_iff_toInt_le, e, tI (by omega)]
    omega
theorem M_burn (F : Nat) {p f k l : Nat} (v : St) (hp : p < 6) (hf : f < 8) (hk : k ≤ 3) (hl : l < 1000) (h0 : v.2 0 (68 * p + f) = nI k) (h8 : v.2 0 (68 * p + (8 + f)) = nI l) (h1 : v.2 1 = u0M.2 1) : pX7_burnsOn F (nI (68 * p)) (nI f) v = some ((), sta v 0 (nI (68 * p + (8 + f))) (nI (l - bn k))) := by
  have q := bn_bd k
  unfold pX7_burnsOn
  simp only [L8, L0, nI_add, vl_e, jn_e]
  rw [inb_nI (n := 68 * p + 8 + f) (by omega) (by omega), inb_nI (n := 68 * p + f) (by omega) (by omega), cl (n := 68 * p + f) (by omega), cl (n := 68 * p + 8 + f) (by omega), h0, inb_nI (n := k) (by omega) (by omega), cl (n := k) (by omega), M_bn h1 hk, show 68 * p + 8 + f = 68 * p + (8 + f) by omega, h8]
  simp only [gd_true]
  exact burn_eq2 hl (by omega) (fun x => some ((), sta v 0 (nI (68 * p + (8 + f))) x))
end
section
/-- a page with other lengths of a case -/
def lw (P : Nat → Nat) (cc l0 l1 : Nat) : Nat → Nat := fun j => if j = 8 + 2 * cc then l0 else if j = 8 + (2 * cc + 1) then l1 else P j
theorem lw_0 (P : Nat → Nat) (cc l0 l1 : Nat) : lw P cc l0 l1 (8 + 2 * cc) = l0 := if_pos rfl
theorem lw_1 (P : Nat → Nat) (cc l0 l1 : Nat) : lw P cc l0 l1 (8 + (2 * cc + 1)) = l1 := by
  unfold lw
  rw [if_neg (by omega), if_pos rfl]
theorem lw_o (P : Nat → Nat) {cc l0 l1 j : Nat} (h : j ≠ 8 + 2 * cc) (h2 : j ≠ 8 + (2 * cc + 1)) : lw P cc l0 l1 j = P j := by
  unfold lw
  rw [if_neg h, if_neg h2]
theorem lw_self (P : Nat → Nat) (cc : Nat) : lw P cc (P (8 + 2 * cc)) (P (8 + (2 * cc + 1))) = P := by
  funext j
  unfold lw
  split
  · next h => rw [h]
  · split
    · next h => rw [h]
    · rfl
theorem stg_lw (P : Nat → Nat) (aw : Nat) {cc l0 l1 : Nat} (hc : cc < 4) : ∀ n m, stg (lw P cc l0 l1) aw n m = stg P aw n m
  | 0, m => rfl
  | n + 1, m => by
    unfold stg
    rw [stg_lw P aw hc n m, lw_o P (by omega) (by omega), lw_o P (by omega) (by omega)]
theorem M_end (F : Nat) {x : Nat} (q0 q1 : Prop) [Decidable q0] [Decidable q1] (v : St) (h : q0 ∨ q1) : jX7_hearsOn_101 F (nI x) (b01 q0) (b01 q1) v = some (nI (if q0 then (if q1 then 3 else 2) else 1), stf v 18 (nI x)) := by
  unfold jX7_hearsOn_101
  simp only [vl_e, jn_e, L0, L1, L2, L3, b01_n0]
  by_cases c0 : q0 <;> by_cases c1 : q1 <;> simp [c0, c1]
theorem n10 : (nI 1 = nI 0) = False := eq_false (by decide)
theorem n00 : (nI 0 = nI 0) = True := eq_true rfl
theorem M_loop (F : Nat) (hF : 30 ≤ F) {p aw mm ms cc jj : Nat} {P : Nat → Nat} (hp : p < 6) (hc : cc < 4) (hj : jj < 3) (k0 : P (2 * cc) ≤ 3) (k1 : P (2 * cc + 1) ≤ 3) (b3 : P (16 + 2 * cc) < 1000) (b4 : P (16 + (2 * cc + 1)) < 1000) (b5 : P (40 + jj) ≤ 3) (b7 : P (43 + jj) ≤ 9) (h46 : P 46 ≤ 4) (hb : ∀ i, i < P 46 → P (47 + i) < 1000 ∧ P (51 + i) < 1000) : ∀ (n m l0 l1 fuel : Nat) (v : St), n ≤ fuel → m + n = 10 → m ≤ P (43 + jj) → l0 < 1000 → l1 < 1000 → MEnv aw mm ms v → PgM p (lw P cc l0 l1) v →
    ∃ v', lq1 (bX7_hearsOn_3 F (nI (68 * p)) (nI cc) (nI jj) (jX7_hearsOn_101 F)) fuel (nI m) v = some (nI (hRun (bn (P (2 * cc))) (bn (P (2 * cc + 1))) (P (16 + 2 * cc)) (P (16 + (2 * cc + 1))) (P (40 + jj)) (P (43 + jj)) (stm P aw mm ms (P 46)) n m l0 l1).1, v') ∧
      PgM p (lw P cc (hRun (bn (P (2 * cc))) (bn (P (2 * cc + 1))) (P (16 + 2 * cc)) (P (16 + (2 * cc + 1))) (P (40 + jj)) (P (43 + jj)) (stm P aw mm ms (P 46)) n m l0 l1).2.2.1 (hRun (bn (P (2 * cc))) (bn (P (2 * cc + 1))) (P (16 + 2 * cc)) (P (16 + (2 * cc + 1))) (P (40 + jj)) (P (43 + jj)) (stm P aw mm ms (P 46)) n m l0 l1).2.2.2) v' ∧
      v'.1 18 = nI (hRun (bn (P (2 * cc))) (bn (P (2 * cc + 1))) (P (16 + 2 * cc)) (P (16 + (2 * cc + 1))) (P (40 + jj)) (P (43 + jj)) (stm P aw mm ms (P 46)) n m l0 l1).2.1 ∧ (∀ k, k ≠ 18 → v'.1 k = v.1 k) ∧ (∀ k, k ≠ 0 → v'.2 k = v.2 k) ∧ (∀ i, (i < 68 * p ∨ 68 * p + 68 ≤ i) → v'.2 0 i = v.2 0 i)
  | 0, m, l0, l1, fuel, v, hf, hm, hs, b1, b2, hE, hM => by omega
  | n + 1, m, l0, l1, 0, v, hf, hm, hs, b1, b2, hE, hM => by omega
  | n + 1, m, l0, l1, fuel + 1, v, hf, hm, hs, b1, b2, hE, hM => by
    have hl0 := lw_0 P cc l0 l1
    have hl1 := lw_1 P cc l0 l1
    have lo : ∀ j, (j < 8 ∨ 16 ≤ j) → lw P cc l0 l1 j = P j := fun j hj => lw_o P (by omega) (by omega)
    have hS : stm (lw P cc l0 l1) aw mm ms (lw P cc l0 l1 46) m = stm P aw mm ms (P 46) m := by
      unfold stm
      rw [lo 46 (by omega), stg_lw P aw hc]
    have o0 := M_out F hF (f := 2 * cc) (mi := m) v hp hM hE (by omega) (by omega) (by rw [hl0]; omega) (by rw [lo _ (by omega)]; omega) (by rw [lo 46 (by omega)]; exact h46) (fun i hi => by rw [lo 46 (by omega)] at hi; rw [lo _ (by omega), lo _ (by omega)]; exact hb i hi)
    have o1 := M_out F hF (f := 2 * cc + 1) (mi := m) v hp hM hE (by omega) (by omega) (by rw [hl1]; omega) (by rw [lo _ (by omega)]; omega) (by rw [lo 46 (by omega)]; exact h46) (fun i hi => by rw [lo 46 (by omega)] at hi; rw [lo _ (by omega), lo _ (by omega)]; exact hb i hi)
    rw [hl0, hS, lo _ (by omega)] at o0
    rw [hl1, hS, lo _ (by omega)] at o1
    have hsl : v.2 0 (68 * p + (43 + jj)) = nI (P (43 + jj)) := by rw [hM _ (by omega), lo _ (by omega)]
    have hg := M_goes F (jj := jj) v hp hM hc hj (by rw [hl0]; omega) (by rw [hl1]; omega) (by rw [lo _ (by omega)]; omega) (by rw [lo _ (by omega)]; omega) (by rw [lo _ (by omega)]; exact b5)
    rw [hl0, hl1, lo _ (by omega), lo _ (by omega), lo _ (by omega)] at hg
    generalize hSm : stm P aw mm ms (P 46) = S at *
    rw [lq1_s]
    generalize hself : lq1 (bX7_hearsOn_3 F (nI (68 * p)) (nI cc) (nI jj) (jX7_hearsOn_101 F)) fuel = self
    unfold bX7_hearsOn_3
    simp only [L9, L2, L1, L0, L43, pk_mul, nI_add]
    rw [if_neg (show ¬ nI 9 < nI m from fun z => absurd ((ltI (by omega) (by omega)).mp z) (by omega)), o0, bd_s, o1, bd_s, jn_e]
    simp only [b01_n0]
    rw [inb_nI (n := 68 * p + 43 + jj) (by omega) (by omega), gd_true, cl (n := 68 * p + 43 + jj) (by omega), show 68 * p + 43 + jj = 68 * p + (43 + jj) by omega, hsl, ifeq (by omega) (by omega)]
    by_cases c0 : l0 = 0 ∨ P (16 + 2 * cc) < S m
    · rw [if_pos c0, if_pos c0, M_end F _ _ v (Or.inl c0), hRun_end _ _ _ _ _ _ S n m l0 l1 (by omega)]
      refine ⟨stf v 18 (nI m), ?_, hM, rfl, fun k hk => by rw [stf_1, if_neg hk], fun k hk => rfl, fun i hi => rfl⟩
      unfold hEnd
      rw [if_pos c0]
      by_cases c1 : l1 = 0 ∨ P (16 + (2 * cc + 1)) < S m
      · rw [if_pos c1, if_pos c0]
      · rw [if_neg c1, if_pos c0]
    · rw [if_neg c0]
      by_cases c1 : l1 = 0 ∨ P (16 + (2 * cc + 1)) < S m
      · rw [if_pos c1, if_neg c0, if_pos c1, M_end F _ _ v (Or.inr c1), hRun_end _ _ _ _ _ _ S n m l0 l1 (by omega)]
        refine ⟨stf v 18 (nI m), ?_, hM, rfl, fun k hk => by rw [stf_1, if_neg hk], fun k hk => rfl, fun i hi => rfl⟩
        unfold hEnd
        simp only [c0, c1, if_true, if_false]
      · rw [if_neg c1]
        by_cases c2 : m = P (43 + jj)
        · rw [if_pos c2, hg, bd_s, jn_e, hRun_end _ _ _ _ _ _ S n m l0 l1 (by omega)]
          have hd : hEnd l0 l1 (P (16 + 2 * cc)) (P (16 + (2 * cc + 1))) (P (40 + jj)) (S m) = if hGo l0 l1 (P (16 + 2 * cc)) (P (16 + (2 * cc + 1))) (P (40 + jj)) = 0 then 2 else 1 := by
            unfold hEnd
            rw [if_neg c0, if_neg c1]
          have hgb : hGo l0 l1 (P (16 + 2 * cc)) (P (16 + (2 * cc + 1))) (P (40 + jj)) < 2 := by
            unfold hGo
            split <;> (try split) <;> (try split) <;> (try split) <;> omega
          by_cases c3 : hGo l0 l1 (P (16 + 2 * cc)) (P (16 + (2 * cc + 1))) (P (40 + jj)) = 0
          · have e := M_end F (x := m) True False v (Or.inl trivial)
            rw [show (b01 True : Int32) = nI 1 from rfl, show (b01 False : Int32) = nI 0 from rfl] at e
            simp only [c3, jn_e, n10, n00, if_true, if_false]
            rw [e]
            refine ⟨stf v 18 (nI m), ?_, hM, rfl, fun k hk => by rw [stf_1, if_neg hk], fun k hk => rfl, fun i hi => rfl⟩
            rw [hd, if_pos c3]
            rfl
          · have c4 : hGo l0 l1 (P (16 + 2 * cc)) (P (16 + (2 * cc + 1))) (P (40 + jj)) = 1 := by omega
            have e := M_end F (x := m) False True v (Or.inr trivial)
            rw [show (b01 True : Int32) = nI 1 from rfl, show (b01 False : Int32) = nI 0 from rfl] at e
            simp only [c4, jn_e, n10, n00, if_true, if_false]
            rw [e]
            refine ⟨stf v 18 (nI m), ?_, hM, rfl, fun k hk => by rw [stf_1, if_neg hk], fun k hk => rfl, fun i hi => rfl⟩
            rw [hd, if_neg c3]
            rfl
        · rw [if_neg c2, if_neg c0, if_neg c1, hRun_on _ _ _ _ _ _ S n m l0 l1 (by omega)]
          have h1 : v.2 1 = u0M.2 1 := hE.2.2.2.2.2.2
          have q0 := bn_bd (P (2 * cc))
          have q1 := bn_bd (P (2 * cc + 1))
          rw [M_burn F (f := 2 * cc) (k := P (2 * cc)) (l := l0) v hp (by omega) k0 b1 (by rw [hM _ (by omega), lo _ (by omega)]) (by rw [hM _ (by omega), hl0]) h1, bd_s]
          rw [M_burn F (f := 2 * cc + 1) (k := P (2 * cc + 1)) (l := l1) (sta v 0 (nI (68 * p + (8 + 2 * cc))) (nI (l0 - bn (P (2 * cc))))) hp (by omega) k1 b2 (by
            rw [sta_2, if_pos rfl, cl (by omega), upd_n (by omega), hM _ (by omega), lo _ (by omega)]) (by
            rw [sta_2, if_pos rfl, cl (by omega), upd_n (by omega), hM _ (by omega), hl1]) (by rw [sta_m _ _ _ (by omega)]; exact h1), bd_s]
          generalize hw : sta (sta v 0 (nI (68 * p + (8 + 2 * cc))) (nI (l0 - bn (P (2 * cc))))) 0 (nI (68 * p + (8 + (2 * cc + 1)))) (nI (l1 - bn (P (2 * cc + 1)))) = w
          have w1 : w.1 = v.1 := by rw [← hw]; rfl
          have w2 : ∀ k, k ≠ 0 → w.2 k = v.2 k := fun k hk => by rw [← hw, sta_2, if_neg hk, sta_2, if_neg hk]
          have w0 : ∀ i, w.2 0 i = if i = 68 * p + (8 + (2 * cc + 1)) then nI (l1 - bn (P (2 * cc + 1))) else if i = 68 * p + (8 + 2 * cc) then nI (l0 - bn (P (2 * cc))) else v.2 0 i := fun i => by
            rw [← hw, sta_2, if_pos rfl, cl (by omega), sta_2, if_pos rfl, cl (by omega)]
            rfl
          clear hw
          subst hSm
          subst hself
          obtain ⟨v', g1, g2, g3, g4, g5, g6⟩ := M_loop F hF hp hc hj k0 k1 b3 b4 b5 b7 h46 hb n (m + 1) (l0 - bn (P (2 * cc))) (l1 - bn (P (2 * cc + 1))) fuel w (by omega) (by omega) (by omega) (by omega) (by omega) (by
            obtain ⟨e1, e2, e3, e4, e5, e6, e7⟩ := hE
            exact ⟨e1, by rw [w1]; exact e2, by rw [w1]; exact e3, by rw [w1]; exact e4, e5, e6, by rw [w2 1 (by omega)]; exact e7⟩) (fun k hk => by
            rw [w0]
            unfold lw
            by_cases d1 : k = 8 + (2 * cc + 1)
            · rw [if_pos (by omega), if_neg (by omega), if_pos d1]
            · rw [if_neg (by omega)]
              by_cases d2 : k = 8 + 2 * cc
              · rw [if_pos (by omega), if_pos d2]
              · rw [if_neg (by omega), if_neg d2, if_neg d1, hM k hk, lw_o P d2 d1])
          refine ⟨v', g1, g2, g3, fun k hk => by rw [g4 k hk, w1], fun k hk => by rw [g5 k hk, w2 k hk], fun i hi => by rw [g6 i hi, w0, if_neg (by omega), if_neg (by omega)]⟩
end
section
theorem M_copyL (F : Nat) {p q : Nat} (hp : p < 6) (hq : q < 6) (hpq : p ≠ q) : ∀ (n i fuel : Nat) (v : St), i + n = 68 → n < fuel → ∃ v', lq1 (bX7_copies_2 F (nI (68 * p)) (nI (68 * q))) fuel (nI i) v = some ((), v') ∧ v'.1 = v.1 ∧ (∀ k, k ≠ 0 → v'.2 k = v.2 k) ∧ (∀ k, i ≤ k → k < 68 → v'.2 0 (68 * q + k) = v.2 0 (68 * p + k)) ∧ (∀ k, (k < 68 * q + i ∨ 68 * q + 68 ≤ k) → v'.2 0 k = v.2 0 k)
  | n, i, 0, v, h1, h2 => by omega
  | 0, i, fuel + 1, v, h1, h2 => by
    refine ⟨v, ?_, rfl, fun k hk => rfl, fun k h3 h4 => by omega, fun k hk => rfl⟩
    rw [lq1_s]
    unfold bX7_copies_2
    rw [L68, if_pos ((leI (by omega) (by omega)).mpr (by omega))]
  | n + 1, i, fuel + 1, v, h1, h2 => by
    have e : lq1 (bX7_copies_2 F (nI (68 * p)) (nI (68 * q))) (fuel + 1) (nI i) v = lq1 (bX7_copies_2 F (nI (68 * p)) (nI (68 * q))) fuel (nI (i + 1)) (sta v 0 (nI (68 * q + i)) (v.2 0 (68 * p + i))) := by
      rw [lq1_s]
      generalize lq1 (bX7_copies_2 F (nI (68 * p)) (nI (68 * q))) fuel = self
      unfold bX7_copies_2
      rw [L68, if_neg (show ¬ nI 68 ≤ nI i from fun z => absurd ((leI (by omega) (by omega)).mp z) (by omega))]
      simp only [nI_add, vl_e, L1]
      rw [inb_nI (by omega) (by omega), inb_nI (by omega) (by omega), cl (by omega)]
      rfl
    rw [e]
    obtain ⟨v', g1, g2, g3, g4, g5⟩ := M_copyL F hp hq hpq n (i + 1) fuel (sta v 0 (nI (68 * q + i)) (v.2 0 (68 * p + i))) (by omega) (by omega)
    refine ⟨v', g1, g2.trans rfl, fun k hk => (g3 k hk).trans (by rw [sta_2, if_neg hk]), fun k h3 h4 => ?_, fun k hk => ?_⟩
    · by_cases hk : k = i
      · subst hk
        rw [g5 _ (by omega), sta_2, if_pos rfl, cl (by omega), upd_s]
      · rw [g4 k (by omega) h4, sta_2, if_pos rfl, cl (by omega), upd_n (by omega)]
    · rw [g5 k (by omega), sta_2, if_pos rfl, cl (by omega), upd_n (by omega)]
theorem M_copies (F : Nat) (hF : 80 ≤ F) {p q : Nat} (hp : p < 6) (hq : q < 6) (hpq : p ≠ q) (v : St) : ∃ v', pX7_copies F (nI (68 * p)) (nI (68 * q)) v = some ((), v') ∧ v'.1 = v.1 ∧ (∀ k, k ≠ 0 → v'.2 k = v.2 k) ∧ (∀ k, k < 68 → v'.2 0 (68 * q + k) = v.2 0 (68 * p + k)) ∧ (∀ k, (k < 68 * q ∨ 68 * q + 68 ≤ k) → v'.2 0 k = v.2 0 k) := by
  obtain ⟨v', g1, g2, g3, g4, g5⟩ := M_copyL F hp hq hpq 68 0 F v (by omega) (by omega)
  exact ⟨v', by unfold pX7_copies; exact g1, g2, g3, fun k hk => g4 k (by omega) hk, fun k hk => g5 k (by omega)⟩
theorem M_hears (F : Nat) (hF : 80 ≤ F) {p c jn aw mm ms cc jj : Nat} {P : Nat → Nat} (v : St) (hp : p < 6) (hc4 : c ≤ 4) (hj3 : jn ≤ 3) (hPg : PgOK c jn P) (hM : PgM p P v) (hE : MEnv aw mm ms v) (hc : cc < c) (hj : jj < jn) :
    ∃ v', pX7_hearsOn F (nI (68 * p)) (nI cc) (nI jj) v = some (nI (hP P (stm P aw mm ms (P 46)) cc jj).1, v') ∧ PgM p (lw P cc (hP P (stm P aw mm ms (P 46)) cc jj).2.2.1 (hP P (stm P aw mm ms (P 46)) cc jj).2.2.2) v' ∧ v'.1 18 = nI (hP P (stm P aw mm ms (P 46)) cc jj).2.1 ∧ (∀ k, k ≠ 18 → v'.1 k = v.1 k) ∧ (∀ k, k ≠ 0 → v'.2 k = v.2 k) ∧ (∀ i, (i < 68 * p ∨ 68 * p + 68 ≤ i) → v'.2 0 i = v.2 0 i) := by
  have q0 := hPg.2.2.1 (2 * cc) (by omega)
  have q1 := hPg.2.2.1 (2 * cc + 1) (by omega)
  have q2 := hPg.2.2.2.2.1 jj hj
  have q3 := hPg.2.2.2.2.2.1
  unfold pX7_hearsOn
  rw [jn_e, L0]
  exact M_loop F (by omega) hp (by omega) (by omega) q0.1 q1.1 (by omega) (by omega) q2.1 q2.2.2 hPg.1 (fun i hi => by have := q3 i hi; omega) 10 0 _ _ F v (by omega) (by omega) (by omega) (by omega) (by omega) hE (by rw [lw_self]; exact hM)
theorem M_tries (F : Nat) (hF : 80 ≤ F) {p c jn aw mm ms cc jj : Nat} {P : Nat → Nat} (v : St) (hp : p < 6) (hp4 : p ≠ 4) (hc4 : c ≤ 4) (hj3 : jn ≤ 3) (hPg : PgOK c jn P) (hM : PgM p P v) (hE : MEnv aw mm ms v) (hc : cc < c) (hj : jj < jn) :
    ∃ v', pX7_tries F (nI (68 * p)) (nI cc) (nI jj) v = some (nI (hP P (stm P aw mm ms (P 46)) cc jj).1, v') ∧ PgM 4 (lw P cc (hP P (stm P aw mm ms (P 46)) cc jj).2.2.1 (hP P (stm P aw mm ms (P 46)) cc jj).2.2.2) v' ∧ v'.1 18 = nI (hP P (stm P aw mm ms (P 46)) cc jj).2.1 ∧ (∀ k, k ≠ 18 → v'.1 k = v.1 k) ∧ (∀ k, k ≠ 0 → v'.2 k = v.2 k) ∧ (∀ i, (i < 272 ∨ 340 ≤ i) → v'.2 0 i = v.2 0 i) := by
  obtain ⟨w, g1, g2, g3, g4, g5⟩ := M_copies F hF hp (show 4 < 6 by omega) hp4 v
  obtain ⟨e1, e2, e3, e4, e5, e6, e7⟩ := hE
  obtain ⟨v', k1, k2, k3, k4, k5, k6⟩ := M_hears F hF (p := 4) w (by omega) hc4 hj3 hPg (fun k hk => by rw [g4 k hk]; exact hM k hk) (aw := aw) (mm := mm) (ms := ms) ⟨e1, by rw [g2]; exact e2, by rw [g2]; exact e3, by rw [g2]; exact e4, e5, e6, by rw [g3 1 (by omega)]; exact e7⟩ hc hj
  refine ⟨v', ?_, k2, k3, fun k hk => by rw [k4 k hk, g2], fun k hk => by rw [k5 k hk, g3 k hk], fun i hi => by rw [k6 i (by omega), g5 i (by omega)]⟩
  unfold pX7_tries
  rw [L272, show nI 272 = nI (68 * 4) from rfl, g1, bd_s, k1]
  rfl
theorem stm_0 (P : Nat → Nat) (mm n : Nat) : stm P 0 mm 0 n = stg P 0 n := by
  funext m
  unfold stm
  split <;> simp
end
section
/-! PURE: the first steps -/
theorem i10 {α : Type} (a b : α) : (if (1 : Int32) = 0 then a else b) = b := if_neg (by decide)
theorem i00 {α : Type} (a b : α) : (if (0 : Int32) = 0 then a else b) = a := if_pos rfl
theorem gd_i {α : Type} {n N : Nat} (h : n < N) (hN : N < 2147483648) (o : Option α) : gd (inb (nI n) N) o = o := by rw [inb_nI h hN, gd_true]
theorem subL {c : Nat} (h : c < 2147483648) : (nI c - 1).toInt = (c : Int) - 1 := by
  rw [Int32.toInt_sub, tI h, show (1 : Int32).toInt = 1 from by decide]
  exact fb_bmod0 (by omega) (by omega)
/-- both sides' ranges say the same -/
theorem rng (x : Int32) {a0 b0 : Int32} {a1 b1 : Int64} (lo hi : Int) (ha : a0.toInt = lo) (ha' : a1.toInt = lo) (hb : b0.toInt = hi) (hb' : b1.toInt = hi) (h0 : 0 ≤ lo) (h1 : hi < 2147483647) :
    (∃ n : Nat, lo ≤ (n : Int) ∧ (n : Int) ≤ hi ∧ x = nI n ∧ (∀ F u, pX6_isIn F (Int32.toInt64 x) a0 b0 u = some (1, u)) ∧ ∀ F v, pX7_in F (Int32.toInt64 x) a1 b1 v = some (1, v)) ∨
    (¬ (lo ≤ x.toInt ∧ x.toInt ≤ hi) ∧ (∀ F u, pX6_isIn F (Int32.toInt64 x) a0 b0 u = some (0, u)) ∧ ∀ F v, pX7_in F (Int32.toInt64 x) a1 b1 v = some (0, v)) := by
  by_cases h : lo ≤ x.toInt ∧ x.toInt ≤ hi
  · refine Or.inl ⟨x.toInt.toNat, by omega, by omega, ?_, fun F u => ?_, fun F v => ?_⟩
    · apply Int32.toInt_inj.mp
      rw [nI_toInt (by omega)]
      omega
    · rw [X_isIn, b01_t (by rw [tI64, ha, hb]; exact h)]
    · rw [M_in, b01_t (by rw [tI64, ha', hb']; exact h)]
  · refine Or.inr ⟨h, fun F u => ?_, fun F v => ?_⟩
    · rw [X_isIn, b01_f (by rw [tI64, ha, hb]; exact h)]
    · rw [M_in, b01_f (by rw [tI64, ha', hb']; exact h)]
theorem rng_ne {x : Int32} {hi : Int} (h : ¬ (0 ≤ x.toInt ∧ x.toInt ≤ hi)) {k : Nat} (hk : (k : Int) ≤ hi) (hk2 : k < 1000) : ¬ x = nI k := fun q => h (by
  rw [q, tI (by omega)]
  omega)
theorem PgM.g {P : Nat → Nat} {v : St} (h : PgM 0 P v) {k : Nat} (hk : k < 68) : v.2 0 k = nI (P k) := by
  have := h k hk
  rwa [show 68 * 0 + k = k by omega] at this
theorem off_e {n : Nat} (hn : n < 1000) (v : St) : (if nI n = nI 0 then some ((-4 : Int32), v) else some (nI n - nI 1, v)) = some (off n, v) := by
  unfold off
  rw [ifeq (by omega) (by omega)]
  by_cases h : n = 0
  · rw [if_pos h, if_pos h]
  · rw [if_neg h, if_neg h, subI (by omega)]
/-- a case, a judge, a side: on both sides, or on none -/
theorem z01_1 : z01 (1 : Int32) = true := by decide
theorem z01_0 : z01 (0 : Int32) = true := by decide
theorem two_case (x : Int32) {c : Nat} {u v : St} (hc : c ≤ 4) (h1 : u.1 0 = nI c) (h2 : v.1 0 = nI c) :
    (∃ n : Nat, n < c ∧ x = nI n ∧ (∀ F, pX0_hasCase F 0 (Int32.toInt64 x) u = some (1, u)) ∧ ∀ F, pX7_isCase F x v = some (1, v)) ∨ ((∀ F, pX0_hasCase F 0 (Int32.toInt64 x) u = some (0, u)) ∧ ∀ F, pX7_isCase F x v = some (0, v)) := by
  have hb : (nI c - 1).toInt = (c : Int) - 1 := subL (by omega)
  rcases rng x (a0 := 0) (b0 := nI c - 1) (a1 := 0) (b1 := Int32.toInt64 (nI c - 1)) 0 ((c : Int) - 1) rfl rfl hb (by rw [tI64]; exact hb) (by omega) (by omega) with ⟨n, b1, b2, b3, e, e'⟩ | ⟨-, e, e'⟩
  · refine Or.inl ⟨n, by omega, b3, fun F => ?_, fun F => ?_⟩
    · unfold pX0_hasCase
      rw [show 4 * 0 + 0 = 0 from rfl, h1, e, bd_s, z01_1, gd_true]
    · unfold pX7_isCase
      rw [h2, e', bd_s, z01_1, gd_true]
  · refine Or.inr ⟨fun F => ?_, fun F => ?_⟩
    · unfold pX0_hasCase
      rw [show 4 * 0 + 0 = 0 from rfl, h1, e, bd_s, z01_0, gd_true]
    · unfold pX7_isCase
      rw [h2, e', bd_s, z01_0, gd_true]
theorem two_judge (x : Int32) {c : Nat} {u v : St} (hc : c ≤ 3) (h1 : u.1 1 = nI c) (h2 : v.1 1 = nI c) :
    (∃ n : Nat, n < c ∧ x = nI n ∧ (∀ F, pX0_hasJudge F 0 x u = some (1, u)) ∧ ∀ F, pX7_isJudge F x v = some (1, v)) ∨ ((∀ F, pX0_hasJudge F 0 x u = some (0, u)) ∧ ∀ F, pX7_isJudge F x v = some (0, v)) := by
  have hb : (nI c - 1).toInt = (c : Int) - 1 := subL (by omega)
  rcases rng x (a0 := 0) (b0 := nI c - 1) (a1 := 0) (b1 := Int32.toInt64 (nI c - 1)) 0 ((c : Int) - 1) rfl rfl hb (by rw [tI64]; exact hb) (by omega) (by omega) with ⟨n, b1, b2, b3, e, e'⟩ | ⟨-, e, e'⟩
  · refine Or.inl ⟨n, by omega, b3, fun F => ?_, fun F => ?_⟩
    · unfold pX0_hasJudge
      rw [show 4 * 0 + 1 = 1 from rfl, h1, e, bd_s, z01_1, gd_true]
    · unfold pX7_isJudge
      rw [h2, e', bd_s, z01_1, gd_true]
  · refine Or.inr ⟨fun F => ?_, fun F => ?_⟩
    · unfold pX0_hasJudge
      rw [show 4 * 0 + 1 = 1 from rfl, h1, e, bd_s, z01_0, gd_true]
    · unfold pX7_isJudge
      rw [h2, e', bd_s, z01_0, gd_true]
theorem two_side (x : Int32) :
    (∃ n : Nat, n < 2 ∧ x = nI n ∧ (∀ F u, pX6_isSide F x u = some (1, u)) ∧ ∀ F v, pX7_isSide F x v = some (1, v)) ∨ ((∀ F u, pX6_isSide F x u = some (0, u)) ∧ ∀ F v, pX7_isSide F x v = some (0, v)) := by
  rcases rng x (a0 := 0) (b0 := 1) (a1 := 0) (b1 := 1) 0 1 rfl rfl rfl rfl (by omega) (by omega) with ⟨n, b1, b2, b3, e, e'⟩ | ⟨-, e, e'⟩
  · refine Or.inl ⟨n, by omega, b3, fun F u => ?_, fun F v => ?_⟩
    · unfold pX6_isSide
      rw [e, bd_s, z01_1, gd_true]
    · unfold pX7_isSide
      rw [e', bd_s, z01_1, gd_true]
  · refine Or.inr ⟨fun F u => ?_, fun F v => ?_⟩
    · unfold pX6_isSide
      rw [e, bd_s, z01_0, gd_true]
    · unfold pX7_isSide
      rw [e', bd_s, z01_0, gd_true]
theorem step_fault {u v : St} (h : RR u v) : ∃ (r r2 : Int32) (u' v' : St), pX6_fault LF u = some (r, u') ∧ pX7_fault LF v = some (r2, v') ∧ RR u' v' := ⟨u.1 18, v.1 8, u, v, rfl, rfl, h⟩
theorem same_fault {u v : St} (h : RR u v) (hw : u.1 18 = v.1 8) : ∃ (r : Int32) (u' v' : St), pX6_fault LF u = some (r, u') ∧ pX7_fault LF v = some (r, v') ∧ RR u' v' := ⟨u.1 18, u, v, rfl, by rw [hw]; rfl, h⟩
theorem step_torn {u v : St} (h : RR u v) : ∃ (r : Int32) (u' v' : St), pX6_torn LF u = some (r, u') ∧ pX7_torn LF v = some (r, v') ∧ RR u' v' := by
  obtain ⟨c, jn, P, hC, i0, i1, hs, ht, hw, htn, hsh, hc⟩ := id h
  exact ⟨u.1 16, u, v, rfl, by rw [htn]; rfl, h⟩
theorem step_feed {u v : St} (h : RR u v) (x0 : Int32) : ∃ (r : Int32) (u' v' : St), pX6_feed LF x0 u = some (r, u') ∧ pX7_feed LF x0 v = some (r, v') ∧ RR u' v' := by
  obtain ⟨c, jn, P, hC, i0, i1, hs, ⟨n, n1, n2, n3, n4⟩, hw, htn, hsh, hc⟩ := id h
  unfold pX6_feed pX7_feed pX2_add
  rcases rng x0 (a0 := 0) (b0 := 127) (a1 := 0) (b1 := 127) 0 127 rfl rfl rfl rfl (by omega) (by omega) with ⟨b, b1, b2, rfl, e, e'⟩ | ⟨-, e, e'⟩
  · rw [e, e', bd_s, bd_s, i10, i10, n2, n3, L160, iflt (by omega) (by omega), ifeq (by omega) (by omega)]
    by_cases hn : n = 160
    · rw [if_neg (by omega), if_pos hn, bd_s, i00]
      exact ⟨_, _, _, rfl, rfl, h⟩
    · rw [if_pos (by omega), if_neg hn, gd_i (by omega) (by omega), gd_i (by omega) (by omega)]
      simp only [vl_e, bd_s, i10, sta_1, n2, n3, L1, nI_add]
      refine ⟨nI (n + 1), _, _, rfl, rfl, c, jn, P, hC, i0, i1, hs, ⟨n + 1, by omega, rfl, rfl, fun i hi => ?_⟩, hw, htn, hsh, hc⟩
      by_cases hq : i = n
      · subst hq
        exact ⟨b, by omega, by rw [stf_2, sta_2, if_pos rfl, cl (by omega), upd_s], by rw [stf_2, sta_2, if_pos rfl, cl (by omega), upd_s]⟩
      · obtain ⟨y, y1, y2, y3⟩ := n4 i (by omega)
        exact ⟨y, y1, by rw [stf_2, sta_2, if_pos rfl, cl (by omega), upd_n hq]; exact y2, by rw [stf_2, sta_2, if_pos rfl, cl (by omega), upd_n hq]; exact y3⟩
  · rw [e, e', bd_s, bd_s, i00, i00]
    exact ⟨_, _, _, rfl, rfl, h⟩
theorem step_end {u v : St} (h : RR u v) (x0 : Int32) : ∃ (r : Int32) (u' v' : St), pX6_end LF x0 u = some (r, u') ∧ pX7_end LF x0 v = some (r, v') ∧ RR u' v' := by
  obtain ⟨c, jn, P, hC, i0, i1, hs, ⟨n, n1, n2, n3, n4⟩, hw, htn, hsh, hc⟩ := id h
  unfold pX6_end pX7_end
  have hb : (nI n).toInt = (n : Int) := tI (by omega)
  rcases rng x0 (a0 := 0) (b0 := nI n) (a1 := 0) (b1 := Int32.toInt64 (nI n)) 0 n rfl rfl hb (by rw [tI64]; exact hb) (by omega) (by omega) with ⟨b, b1, b2, rfl, e, e'⟩ | ⟨-, e, e'⟩
  · rw [n2, n3, e, e', bd_s, bd_s, i10, i10]
    simp only [vl_e, n2, n3]
    exact ⟨nI n, _, _, rfl, rfl, c, jn, P, hC, i0, i1, hs, ⟨b, by omega, rfl, rfl, fun i hi => n4 i (by omega)⟩, hw, htn, hsh, hc⟩
  · rw [n2, n3, e, e', bd_s, bd_s, i00, i00]
    exact ⟨_, _, _, rfl, rfl, h⟩
theorem step_judge {u v : St} (h : RR u v) (x0 x1 : Int32) : ∃ (r : Int32) (u' v' : St), pX6_judge LF x0 x1 u = some (r, u') ∧ pX7_judge LF x0 x1 v = some (r, v') ∧ RR u' v' := by
  obtain ⟨c, jn, P, ⟨c1, c2, c3, ⟨y1, y2, y3, y4, y5, y6, y7, y8, y9⟩, c5, c6, c7⟩, i0, i1, hs, ht, hw, htn, hsh, hc⟩ := id h
  unfold pX6_judge pX7_judge
  rcases two_judge x0 c2 y2 c6 with ⟨a, a1, rfl, e, e'⟩ | ⟨e, e'⟩
  · rw [e, e', bd_s, bd_s, i10, i10]
    rcases rng x1 (a0 := 0) (b0 := 1) (a1 := 0) (b1 := 1) 0 1 rfl rfl rfl rfl (by omega) (by omega) with ⟨b, b1, b2, rfl, k, k'⟩ | ⟨-, k, k'⟩
    · rw [k, k', bd_s, bd_s, i10, i10]
      obtain ⟨z1, z2⟩ := y7 a a1
      simp (disch := omega) only [L0, L3, L40, nI_add, pk_mul, gd_i, cl, eqI]
      have hb : b = 0 ∨ b = 1 := by omega
      rcases hb with rfl | rfl
      · exact ⟨nI (P (40 + a)), u, v, by rw [if_pos rfl]; exact congrArg (fun q => some (q, u)) z1, congrArg (fun q => some (q, v)) (c7.g (k := 40 + 3 * 0 + a) (by omega)), h⟩
      · exact ⟨nI (P (43 + a)), u, v, by rw [if_neg (by omega)]; exact congrArg (fun q => some (q, u)) z2, congrArg (fun q => some (q, v)) (c7.g (k := 40 + 3 * 1 + a) (by omega)), h⟩
    · rw [k, k', bd_s, bd_s, i00, i00]
      exact ⟨_, _, _, rfl, rfl, h⟩
  · rw [e, e', bd_s, bd_s, i00, i00]
    exact ⟨_, _, _, rfl, rfl, h⟩
theorem step_flame {u v : St} (h : RR u v) (x0 x1 x2 : Int32) : ∃ (r : Int32) (u' v' : St), pX6_flame LF x0 x1 x2 u = some (r, u') ∧ pX7_flame LF x0 x1 x2 v = some (r, v') ∧ RR u' v' := by
  obtain ⟨c, jn, P, ⟨c1, c2, c3, ⟨y1, y2, y3, y4, y5, y6, y7, y8, y9⟩, c5, c6, c7⟩, i0, i1, hs, ht, hw, htn, hsh, hc⟩ := id h
  unfold pX6_flame pX6_isFlame pX7_flame
  rcases two_case x0 c1 y1 c5 with ⟨a, a1, rfl, e, e'⟩ | ⟨e, e'⟩
  · rw [e, e', bd_s, bd_s, i10, i10]
    rcases two_side x1 with ⟨b, b1, rfl, k, k'⟩ | ⟨k, k'⟩
    · simp only [k, k', bd_s, i10]
      obtain ⟨z1, z2, z3⟩ := y5 (2 * a + b) (by omega)
      obtain ⟨w1, w2, w3⟩ := c3.2.2.1 (2 * a + b) (by omega)
      simp only [vl_e, L2, L8, pk_mul, nI_add]
      rcases rng x2 (a0 := 0) (b0 := 3) (a1 := 0) (b1 := 3) 0 3 rfl rfl rfl rfl (by omega) (by omega) with ⟨d, d1, d2, rfl, -, m'⟩ | ⟨m, -, m'⟩
      · rw [m', bd_s, i10]
        simp (disch := omega) only [pk_mul, nI_add, gd_i, cl, L0, L1, L2, L3, eqI]
        have hd : d = 0 ∨ d = 1 ∨ d = 2 ∨ d = 3 := by omega
        rcases hd with rfl | rfl | rfl | rfl
        · refine ⟨nI (P (2 * a + b)), u, v, ?_, ?_, h⟩
          · rw [if_pos rfl]; exact congrArg (fun q => some (q, u)) z1
          · rw [if_neg (by omega), c7.g (by omega), show 8 * 0 + 2 * a + b = 2 * a + b by omega]
        · refine ⟨nI (P (8 + (2 * a + b))), u, v, ?_, ?_, h⟩
          · rw [if_neg (by omega), if_pos rfl]; exact congrArg (fun q => some (q, u)) z2
          · rw [if_neg (by omega), c7.g (by omega), show 8 * 1 + 2 * a + b = 8 + (2 * a + b) by omega]
        · refine ⟨nI (P (16 + (2 * a + b))), u, v, ?_, ?_, h⟩
          · rw [if_neg (by omega), if_neg (by omega), if_pos rfl]; exact congrArg (fun q => some (q, u)) z3
          · rw [if_neg (by omega), c7.g (by omega), show 8 * 2 + 2 * a + b = 16 + (2 * a + b) by omega]
        · have z1' : u.2 0 (2 * a + b) = nI (P (2 * a + b)) := z1
          refine ⟨nI (bn (P (2 * a + b))), u, v, ?_, ?_, h⟩
          · rw [if_neg (by omega), if_neg (by omega), if_neg (by omega), if_pos rfl, z1', gd_i (by omega) (by omega), cl (by omega), tab_bn w1]
          · rw [if_pos rfl, c7.g (by omega), gd_i (by omega) (by omega), cl (by omega), M_bn hc.2.2.1 w1]
      · rw [m', bd_s, i00, L0, L1, L3, if_neg (rng_ne m (by omega) (by omega)), if_neg (rng_ne m (by omega) (by omega)), if_neg (rng_ne m (by omega) (by omega)), if_neg (rng_ne m (by omega) (by omega))]
        exact ⟨_, _, _, rfl, rfl, h⟩
    · simp only [k, k', bd_s, i00]
      exact ⟨_, _, _, rfl, rfl, h⟩
  · simp only [e, e', bd_s, i00]
    exact ⟨_, _, _, rfl, rfl, h⟩
theorem step_suit {u v : St} (h : RR u v) (x0 x1 : Int32) : ∃ (r : Int32) (u' v' : St), pX6_suit LF x0 x1 u = some (r, u') ∧ pX7_suit LF x0 x1 v = some (r, v') ∧ RR u' v' := by
  obtain ⟨c, jn, P, ⟨c1, c2, c3, ⟨y1, y2, y3, y4, y5, y6, y7, y8, y9⟩, c5, c6, c7⟩, i0, i1, hs, ht, hw, htn, hsh, hc⟩ := id h
  unfold pX6_suit pX7_suit
  rcases two_case x0 c1 y1 c5 with ⟨a, a1, rfl, e, e'⟩ | ⟨e, e'⟩
  · rw [e, e', bd_s, bd_s, i10, i10]
    obtain ⟨z1, z2, z3, z4⟩ := y6 a a1
    obtain ⟨w1, w2, w3, w4⟩ := c3.2.2.2.1 a a1
    rcases rng x1 (a0 := 0) (b0 := 3) (a1 := 0) (b1 := 3) 0 3 rfl rfl rfl rfl (by omega) (by omega) with ⟨d, d1, d2, rfl, -, m'⟩ | ⟨m, -, m'⟩
    · rw [m', bd_s, i10]
      simp (disch := omega) only [vl_e, L0, L1, L2, L3, L4, L24, pk_mul, nI_add, gd_i, cl, eqI, leI]
      rw [c7.g (by omega)]
      have hd : d = 0 ∨ d = 1 ∨ d = 2 ∨ d = 3 := by omega
      rcases hd with rfl | rfl | rfl | rfl
      · refine ⟨nI (P (24 + a)), u, v, ?_, ?_, h⟩
        · rw [if_pos rfl]; exact congrArg (fun q => some (q, u)) z1
        · rw [if_neg (by omega)]
      · refine ⟨nI (P (28 + a)), u, v, ?_, ?_, h⟩
        · rw [if_neg (by omega), if_pos rfl]; exact congrArg (fun q => some (q, u)) z2
        · rw [if_neg (by omega)]
      · refine ⟨off (P (32 + a)), u, v, ?_, ?_, h⟩
        · rw [if_neg (by omega), if_neg (by omega), if_pos rfl]; exact congrArg (fun q => some (q, u)) z3
        · rw [if_pos (by omega), show 24 + 4 * 2 + a = 32 + a by omega]
          have := off_e (n := P (32 + a)) (by omega) v
          rw [L4] at this
          exact this
      · refine ⟨off (P (36 + a)), u, v, ?_, ?_, h⟩
        · rw [if_neg (by omega), if_neg (by omega), if_neg (by omega), if_pos rfl]; exact congrArg (fun q => some (q, u)) z4
        · rw [if_pos (by omega), show 24 + 4 * 3 + a = 36 + a by omega]
          have := off_e (n := P (36 + a)) (by omega) v
          rw [L4] at this
          exact this
    · rw [m', bd_s, i00, L0, L1, L2, L3, if_neg (rng_ne m (by omega) (by omega)), if_neg (rng_ne m (by omega) (by omega)), if_neg (rng_ne m (by omega) (by omega)), if_neg (rng_ne m (by omega) (by omega))]
      exact ⟨_, _, _, rfl, rfl, h⟩
  · rw [e, e', bd_s, bd_s, i00, i00]
    exact ⟨_, _, _, rfl, rfl, h⟩
theorem step_draught {u v : St} (h : RR u v) (x0 x1 : Int32) : ∃ (r : Int32) (u' v' : St), pX6_draught LF x0 x1 u = some (r, u') ∧ pX7_draught LF x0 x1 v = some (r, v') ∧ RR u' v' := by
  obtain ⟨c, jn, P, ⟨c1, c2, c3, ⟨y1, y2, y3, y4, y5, y6, y7, y8, y9⟩, c5, c6, c7⟩, i0, i1, hs, ht, hw, htn, hsh, hc⟩ := id h
  have h46 : P 46 ≤ 4 := c3.1
  have y3' : u.1 2 = nI (P 46) := y3
  unfold pX6_draught pX7_draught
  rw [L46, gd_i (by omega) (by omega), cl (by omega), c7.g (by omega), y3']
  have hb : (nI (P 46) - 1).toInt = (P 46 : Int) - 1 := subL (by omega)
  rcases rng x0 (a0 := 0) (b0 := nI (P 46) - 1) (a1 := 0) (b1 := Int32.toInt64 (nI (P 46) - 1)) 0 ((P 46 : Int) - 1) rfl rfl hb (by rw [tI64]; exact hb) (by omega) (by omega) with ⟨a, a1, a2, rfl, e, e'⟩ | ⟨-, e, e'⟩
  · rw [e, e', bd_s, bd_s, i10, i10]
    rcases rng x1 (a0 := 0) (b0 := 1) (a1 := 0) (b1 := 1) 0 1 rfl rfl rfl rfl (by omega) (by omega) with ⟨b, b1, b2, rfl, k, k'⟩ | ⟨-, k, k'⟩
    · rw [k, k', bd_s, bd_s, i10, i10]
      obtain ⟨z1, z2⟩ := y8 a (by omega)
      simp (disch := omega) only [L0, L4, L47, nI_add, pk_mul, gd_i, cl, eqI]
      rw [c7.g (by omega)]
      have hb : b = 0 ∨ b = 1 := by omega
      rcases hb with rfl | rfl
      · exact ⟨nI (P (47 + a)), u, v, by rw [if_pos rfl]; exact congrArg (fun q => some (q, u)) z1, rfl, h⟩
      · exact ⟨nI (P (51 + a)), u, v, by rw [if_neg (by omega)]; exact congrArg (fun q => some (q, u)) z2, rfl, h⟩
    · rw [k, k', bd_s, bd_s, i00, i00]
      exact ⟨_, _, _, rfl, rfl, h⟩
  · rw [e, e', bd_s, bd_s, i00, i00]
    exact ⟨_, _, _, rfl, rfl, h⟩
end
section
/-! PURE: what a change of the page leaves -/
def Rest (c jn : Nat) (u v : St) : Prop := RImg 0 c jn u v ∧ RImg 1 c jn u v ∧ RSeen c jn u v ∧ RTape u v ∧ FK (u.1 18) (v.1 8) ∧ u.1 16 = v.1 22 ∧ (∀ k, k < 4 → RSheet k u v) ∧ RConst v
theorem CtX.fr {j c jn : Nat} {P : Nat → Nat} {u u' : St} (hj : 1 ≤ j) (h : CtX j c jn P u) (e1 : ∀ k, 4 ≤ k → u'.1 k = u.1 k) (e2 : ∀ k, 13 ≤ k → u'.2 k = u.2 k) : CtX j c jn P u' := by
  obtain ⟨h1, h2, h3, h4, h5, h6, h7, h8, h9⟩ := h
  refine ⟨by rw [e1 _ (by omega)]; exact h1, by rw [e1 _ (by omega)]; exact h2, by rw [e1 _ (by omega)]; exact h3, by rw [e1 _ (by omega)]; exact h4, ?_, ?_, ?_, ?_, ?_⟩
  · intro f hf; rw [e2 _ (by omega), e2 _ (by omega), e2 _ (by omega)]; exact h5 f hf
  · intro f hf; rw [e2 _ (by omega), e2 _ (by omega), e2 _ (by omega), e2 _ (by omega)]; exact h6 f hf
  · intro f hf; rw [e2 _ (by omega), e2 _ (by omega)]; exact h7 f hf
  · intro f hf; rw [e2 _ (by omega), e2 _ (by omega)]; exact h8 f hf
  · intro f hf; rw [e2 _ (by omega), e2 _ (by omega)]; exact h9 f hf
theorem Rest.fr {c jn : Nat} {u v u' v' : St} (h : Rest c jn u v) (e1 : ∀ k, 4 ≤ k → u'.1 k = u.1 k) (e2 : ∀ k, 13 ≤ k → u'.2 k = u.2 k) (f1 : ∀ k, 2 ≤ k → v'.1 k = v.1 k) (f2 : ∀ k, k ≠ 0 → v'.2 k = v.2 k) (f3 : ∀ i, 68 ≤ i → v'.2 0 i = v.2 0 i) : Rest c jn u' v' := by
  obtain ⟨i0, i1, hs, ht, hw, htn, hsh, hc⟩ := h
  have img : ∀ k, k < 2 → RImg k c jn u v → RImg k c jn u' v' := fun k hk q => by
    rcases q with ⟨a, b⟩ | ⟨a, b, Q, q1, q2, q3⟩
    · exact Or.inl ⟨by rw [e2 66 (by omega)]; exact a, by rw [f2 12 (by omega)]; exact b⟩
    · exact Or.inr ⟨by rw [e2 66 (by omega)]; exact a, by rw [f2 12 (by omega)]; exact b, Q, q1, q2.fr (by omega) e1 e2, fun i hi => by rw [f3 _ (by omega)]; exact q3 i hi⟩
  refine ⟨img 0 (by omega) i0, img 1 (by omega) i1, ?_, ?_, ?_, ?_, ?_, ?_⟩
  · obtain ⟨n, a1, a2, a3, a4⟩ := hs
    refine ⟨n, a1, (e1 29 (by omega)).trans a2, (f1 21 (by omega)).trans a3, fun i hi => ?_⟩
    rw [e2 60 (by omega), e2 61 (by omega), e2 62 (by omega), f2 7 (by omega)]
    exact a4 i hi
  · obtain ⟨n, a1, a2, a3, a4⟩ := ht
    refine ⟨n, a1, (e1 17 (by omega)).trans a2, (f1 7 (by omega)).trans a3, fun i hi => ?_⟩
    rw [e2 54 (by omega), f2 3 (by omega)]
    exact a4 i hi
  · rw [e1 18 (by omega), f1 8 (by omega)]; exact hw
  · rw [e1 16 (by omega), f1 22 (by omega)]; exact htn
  · intro k hk
    have := hsh k hk
    unfold RSheet at this ⊢
    rw [e2 63 (by omega), e2 64 (by omega), e2 65 (by omega), f2 9 (by omega), f2 10 (by omega), f2 11 (by omega)]
    exact this
  · obtain ⟨a1, a2, a3, a4, a5⟩ := hc
    exact ⟨(f1 15 (by omega)).trans a1, (f1 17 (by omega)).trans a2, (by rw [f2 1 (by omega)]; exact a3), (by rw [f2 4 (by omega)]; exact a4), by rw [f2 5 (by omega)]; exact a5⟩
/-- a page with one number more -/
def pu (P : Nat → Nat) (k x : Nat) : Nat → Nat := fun j => if j = k then x else P j
theorem pu_s (P : Nat → Nat) (k x : Nat) : pu P k x k = x := if_pos rfl
theorem pu_n (P : Nat → Nat) {k x j : Nat} (h : j ≠ k) : pu P k x j = P j := if_neg h
theorem PgM.pu {P : Nat → Nat} {v : St} (h : PgM 0 P v) {k x : Nat} (hk : k < 68) : PgM 0 (pu P k x) (sta v 0 (nI k) (nI x)) := fun j hj => by
  rw [sta_h _ _ (by omega)]
  by_cases q : j = k
  · subst q
    rw [if_pos (by omega), pu_s]
  · rw [if_neg (by omega), pu_n P q]
    exact h j hj
theorem step_docket {u v : St} (h : RR u v) (x0 x1 : Int32) : ∃ (r : Int32) (u' v' : St), pX6_docket LF x0 x1 u = some (r, u') ∧ pX7_docket LF x0 x1 v = some (r, v') ∧ RR u' v' := by
  obtain ⟨c, jn, P, ⟨c1, c2, c3, ⟨y1, y2, y3, y4, y5, y6, y7, y8, y9⟩, c5, c6, c7⟩, i0, i1, hs, ht, hw, htn, hsh, hc⟩ := id h
  have h55 : P 55 ≤ 6 := c3.2.1
  have y4' : u.1 3 = nI (P 55) := y4
  unfold pX6_docket pX7_docket
  rw [L55, gd_i (by omega) (by omega), cl (by omega), c7.g (by omega), y4']
  have hb : (nI (P 55) - 1).toInt = (P 55 : Int) - 1 := subL (by omega)
  rcases rng x0 (a0 := 0) (b0 := nI (P 55) - 1) (a1 := 0) (b1 := Int32.toInt64 (nI (P 55) - 1)) 0 ((P 55 : Int) - 1) rfl rfl hb (by rw [tI64]; exact hb) (by omega) (by omega) with ⟨a, a1, a2, rfl, e, e'⟩ | ⟨-, e, e'⟩
  · rw [e, e', bd_s, bd_s, i10, i10]
    rcases rng x1 (a0 := 0) (b0 := 1) (a1 := 0) (b1 := 1) 0 1 rfl rfl rfl rfl (by omega) (by omega) with ⟨b, b1, b2, rfl, k, k'⟩ | ⟨-, k, k'⟩
    · rw [k, k', bd_s, bd_s, i10, i10]
      obtain ⟨z1, z2⟩ := y9 a (by omega)
      simp (disch := omega) only [L0, L6, L56, nI_add, pk_mul, gd_i, cl, eqI]
      rw [c7.g (by omega)]
      have hb : b = 0 ∨ b = 1 := by omega
      rcases hb with rfl | rfl
      · exact ⟨nI (P (56 + a)), u, v, by rw [if_pos rfl]; exact congrArg (fun q => some (q, u)) z1, rfl, h⟩
      · exact ⟨nI (P (62 + a)), u, v, by rw [if_neg (by omega)]; exact congrArg (fun q => some (q, u)) z2, rfl, h⟩
    · rw [k, k', bd_s, bd_s, i00, i00]
      exact ⟨_, _, _, rfl, rfl, h⟩
  · rw [e, e', bd_s, bd_s, i00, i00]
    exact ⟨_, _, _, rfl, rfl, h⟩
theorem step_calm {u v : St} (h : RR u v) (x0 : Int32) : ∃ (r : Int32) (u' v' : St), pX6_calm LF x0 u = some (r, u') ∧ pX7_calm LF x0 v = some (r, v') ∧ RR u' v' := by
  obtain ⟨c, jn, P, ⟨c1, c2, c3, ⟨y1, y2, y3, y4, y5, y6, y7, y8, y9⟩, c5, c6, c7⟩, R⟩ := id h
  have h46 : P 46 ≤ 4 := c3.1
  have y3' : u.1 2 = nI (P 46) := y3
  unfold pX6_calm pX7_calm pX7_puts
  rw [L46, gd_i (by omega) (by omega), cl (by omega), c7.g (by omega), y3']
  have hb : (nI (P 46)).toInt = (P 46 : Int) := tI (by omega)
  rcases rng x0 (a0 := 0) (b0 := nI (P 46)) (a1 := 0) (b1 := Int32.toInt64 (nI (P 46))) 0 (P 46 : Int) rfl rfl hb (by rw [tI64]; exact hb) (by omega) (by omega) with ⟨a, a1, a2, rfl, e, e'⟩ | ⟨-, e, e'⟩
  · simp only [e, e', bd_s, i10, vl_e]
    rw [gd_i (by omega) (by omega), gd_i (by omega) (by omega), bd_s, c7.g (by omega), y3']
    refine ⟨nI (P 46), _, _, rfl, rfl, c, jn, pu P 46 a, ⟨c1, c2, ?_, ⟨y1, y2, rfl, y4, fun f hf => by rw [pu_n P (by omega), pu_n P (by omega), pu_n P (by omega)]; exact y5 f hf, fun f hf => by rw [pu_n P (by omega), pu_n P (by omega), pu_n P (by omega), pu_n P (by omega)]; exact y6 f hf, fun f hf => by rw [pu_n P (by omega), pu_n P (by omega)]; exact y7 f hf, ?_, fun f hf => by rw [pu_n P (by omega)] at hf; rw [pu_n P (by omega), pu_n P (by omega)]; exact y9 f hf⟩, c5, c6, c7.pu (by omega)⟩, ?_⟩
    · obtain ⟨p1, p2, p3, p4, p5, p6, p7⟩ := c3
      refine ⟨by rw [pu_s]; omega, p2, fun f hf => ?_, fun f hf => ?_, fun f hf => ?_, fun f hf => ?_, fun f hf => ?_⟩
      · rw [pu_n P (by omega), pu_n P (by omega), pu_n P (by omega)]; exact p3 f hf
      · rw [pu_n P (by omega), pu_n P (by omega), pu_n P (by omega), pu_n P (by omega)]; exact p4 f hf
      · rw [pu_n P (by omega), pu_n P (by omega)]; exact p5 f hf
      · rw [pu_s] at hf
        rw [pu_n P (by omega), pu_n P (by omega)]; exact p6 f (by omega)
      · have hf' : f < P 55 := hf
        rw [pu_n P (by omega), pu_n P (by omega)]; exact p7 f hf'
    · intro f hf
      rw [pu_s] at hf
      rw [pu_n P (by omega), pu_n P (by omega)]; exact y8 f (by omega)
    · have R' : Rest c jn u v := R
      exact R'.fr (fun k hk => by rw [stf_1, if_neg (by omega)]) (fun k hk => rfl) (fun k hk => rfl) (fun k hk => by rw [sta_m _ _ _ hk]) (fun i hi => by rw [sta_h _ _ (by omega), if_neg (by omega)])
  · simp only [e, e', bd_s, i00]
    exact ⟨_, _, _, rfl, rfl, h⟩
theorem step_cut {u v : St} (h : RR u v) (x0 : Int32) : ∃ (r : Int32) (u' v' : St), pX6_cut LF x0 u = some (r, u') ∧ pX7_cut LF x0 v = some (r, v') ∧ RR u' v' := by
  obtain ⟨c, jn, P, ⟨c1, c2, c3, ⟨y1, y2, y3, y4, y5, y6, y7, y8, y9⟩, c5, c6, c7⟩, R⟩ := id h
  have h55 : P 55 ≤ 6 := c3.2.1
  have y4' : u.1 3 = nI (P 55) := y4
  unfold pX6_cut pX7_cut pX7_puts
  rw [L55, gd_i (by omega) (by omega), cl (by omega), c7.g (by omega), y4']
  have hb : (nI (P 55)).toInt = (P 55 : Int) := tI (by omega)
  rcases rng x0 (a0 := 0) (b0 := nI (P 55)) (a1 := 0) (b1 := Int32.toInt64 (nI (P 55))) 0 (P 55 : Int) rfl rfl hb (by rw [tI64]; exact hb) (by omega) (by omega) with ⟨a, a1, a2, rfl, e, e'⟩ | ⟨-, e, e'⟩
  · simp only [e, e', bd_s, i10, vl_e]
    rw [gd_i (by omega) (by omega), gd_i (by omega) (by omega), bd_s, c7.g (by omega), y4']
    refine ⟨nI (P 55), _, _, rfl, rfl, c, jn, pu P 55 a, ⟨c1, c2, ?_, ⟨y1, y2, y3, rfl, fun f hf => by rw [pu_n P (by omega), pu_n P (by omega), pu_n P (by omega)]; exact y5 f hf, fun f hf => by rw [pu_n P (by omega), pu_n P (by omega), pu_n P (by omega), pu_n P (by omega)]; exact y6 f hf, fun f hf => by rw [pu_n P (by omega), pu_n P (by omega)]; exact y7 f hf, fun f hf => by
      have hf' : f < P 46 := hf
      have := c3.1
      rw [pu_n P (by omega), pu_n P (by omega)]; exact y8 f hf', fun f hf => by
      rw [pu_s] at hf
      rw [pu_n P (by omega), pu_n P (by omega)]; exact y9 f (by omega)⟩, c5, c6, c7.pu (by omega)⟩, ?_⟩
    · obtain ⟨p1, p2, p3, p4, p5, p6, p7⟩ := c3
      refine ⟨p1, by rw [pu_s]; omega, fun f hf => ?_, fun f hf => ?_, fun f hf => ?_, fun f hf => ?_, fun f hf => ?_⟩
      · rw [pu_n P (by omega), pu_n P (by omega), pu_n P (by omega)]; exact p3 f hf
      · rw [pu_n P (by omega), pu_n P (by omega), pu_n P (by omega), pu_n P (by omega)]; exact p4 f hf
      · rw [pu_n P (by omega), pu_n P (by omega)]; exact p5 f hf
      · have hf' : f < P 46 := hf
        rw [pu_n P (by omega), pu_n P (by omega)]; exact p6 f hf'
      · rw [pu_s] at hf
        rw [pu_n P (by omega), pu_n P (by omega)]; exact p7 f (by omega)
    · have R' : Rest c jn u v := R
      exact R'.fr (fun k hk => by rw [stf_1, if_neg (by omega)]) (fun k hk => rfl) (fun k hk => rfl) (fun k hk => by rw [sta_m _ _ _ hk]) (fun i hi => by rw [sta_h _ _ (by omega), if_neg (by omega)])
  · simp only [e, e', bd_s, i00]
    exact ⟨_, _, _, rfl, rfl, h⟩
end
section
/-! PURE: a draught more, a hearing more -/
theorem step_blow {u v : St} (h : RR u v) (x0 x1 : Int32) : ∃ (r : Int32) (u' v' : St), pX6_blow LF x0 x1 u = some (r, u') ∧ pX7_blow LF x0 x1 v = some (r, v') ∧ RR u' v' := by
  obtain ⟨c, jn, P, ⟨c1, c2, c3, ⟨y1, y2, y3, y4, y5, y6, y7, y8, y9⟩, c5, c6, c7⟩, R⟩ := id h
  have h46 : P 46 ≤ 4 := c3.1
  have y3' : u.1 2 = nI (P 46) := y3
  unfold pX6_blow pX7_blow pX0_addDraught
  rcases rng x0 (a0 := 0) (b0 := 20) (a1 := 0) (b1 := 20) 0 20 rfl rfl rfl rfl (by omega) (by omega) with ⟨a, a1, a2, rfl, e, e'⟩ | ⟨-, e, e'⟩
  · rcases rng x1 (a0 := 1) (b0 := 9) (a1 := 1) (b1 := 9) 1 9 rfl rfl rfl rfl (by omega) (by omega) with ⟨b, b1, b2, rfl, k, k'⟩ | ⟨-, k, k'⟩
    · simp only [e, e', k, k', bd_s, i10, show 4 * 0 + 2 = 2 from rfl, show 13 * 0 + 9 = 9 from rfl, show 13 * 0 + 10 = 10 from rfl]
      rw [L46, gd_i (by omega) (by omega), cl (by omega), c7.g (by omega), L4, ifeq (by omega) (by omega), y3', iflt (by omega) (by omega)]
      by_cases hn : P 46 = 4
      · rw [if_pos hn, if_neg (by omega), bd_s, i00]
        exact ⟨_, _, _, rfl, rfl, h⟩
      · rw [if_neg hn, if_pos (by omega)]
        have q1 : (sta v 0 (nI (47 + P 46)) (nI a)).2 0 46 = nI (P 46) := by rw [sta_h _ _ (by omega), if_neg (by omega), c7.g (by omega)]
        have q2 : (sta (sta v 0 (nI (47 + P 46)) (nI a)) 0 (nI (51 + P 46)) (nI b)).2 0 46 = nI (P 46) := by rw [sta_h _ _ (by omega), if_neg (by omega), q1]
        have q3 : ∀ w x, (sta w 0 (nI 46) x).2 0 46 = x := fun w x => by rw [sta_h _ _ (by omega), if_pos rfl]
        simp (disch := omega) only [gd_i, cl, nI_add, L47, L51, L1, vl_e, sta_1, y3', q1, q2, q3, c7.g]
        rw [bd_s, if_neg (show ¬ nI 1 = 0 by decide), stf_1, if_pos rfl]
        obtain ⟨P', hP'⟩ : ∃ P', P' = pu (pu (pu P (47 + P 46) a) (51 + P 46) b) 46 (P 46 + 1) := ⟨_, rfl⟩
        have hp : ∀ j, (j < 46 ∨ 54 < j) → P' j = P j := fun j hj => by rw [hP', pu_n _ (by omega), pu_n _ (by omega), pu_n _ (by omega)]
        have hp46 : P' 46 = P 46 + 1 := by rw [hP', pu_s]
        have hp47 : ∀ i, i < 4 → P' (47 + i) = if i = P 46 then a else P (47 + i) := fun i hi => by
          rw [hP', pu_n _ (by omega), pu_n _ (by omega)]
          by_cases q : i = P 46
          · rw [if_pos q, q, pu_s]
          · rw [if_neg q, pu_n _ (by omega)]
        have hp51 : ∀ i, i < 4 → P' (51 + i) = if i = P 46 then b else P (51 + i) := fun i hi => by
          rw [hP', pu_n _ (by omega)]
          by_cases q : i = P 46
          · rw [if_pos q, q, pu_s]
          · rw [if_neg q, pu_n _ (by omega), pu_n _ (by omega)]
        obtain ⟨p1, p2, p3, p4, p5, p6, p7⟩ := c3
        refine ⟨nI (P 46 + 1), _, _, rfl, rfl, c, jn, P', ⟨c1, c2, ⟨by omega, by rw [hp _ (by omega)]; exact p2, fun f hf => ?_, fun f hf => ?_, fun f hf => ?_, fun f hf => ?_, fun f hf => ?_⟩, ⟨y1, y2, by rw [hp46]; rfl, by rw [hp 55 (by omega)]; exact y4, fun f hf => ?_, fun f hf => ?_, fun f hf => ?_, fun f hf => ?_, fun f hf => ?_⟩, c5, c6, ?_⟩, ?_⟩
        · rw [hp _ (by omega), hp _ (by omega), hp _ (by omega)]; exact p3 f hf
        · rw [hp _ (by omega), hp _ (by omega), hp _ (by omega), hp _ (by omega)]; exact p4 f hf
        · rw [hp _ (by omega), hp _ (by omega)]; exact p5 f hf
        · rw [hp46] at hf
          rw [hp47 f (by omega), hp51 f (by omega)]
          by_cases q : f = P 46
          · rw [if_pos q, if_pos q]; omega
          · rw [if_neg q, if_neg q]; exact p6 f (by omega)
        · rw [hp _ (by omega)] at hf
          rw [hp _ (by omega), hp _ (by omega)]; exact p7 f hf
        · rw [hp _ (by omega), hp _ (by omega), hp _ (by omega)]; exact y5 f hf
        · rw [hp _ (by omega), hp _ (by omega), hp _ (by omega), hp _ (by omega)]; exact y6 f hf
        · rw [hp _ (by omega), hp _ (by omega)]; exact y7 f hf
        · rw [hp46] at hf
          rw [hp47 f (by omega), hp51 f (by omega)]
          show (sta (sta u 9 (nI (P 46)) (nI a)) 10 (nI (P 46)) (nI b)).2 9 f = _ ∧ (sta (sta u 9 (nI (P 46)) (nI a)) 10 (nI (P 46)) (nI b)).2 10 f = _
          rw [sta_m _ _ _ (show 9 ≠ 10 by omega), sta_h _ _ (by omega), sta_h _ _ (by omega), sta_m _ _ _ (show 10 ≠ 9 by omega)]
          by_cases q : f = P 46
          · simp only [if_pos q, and_self]
          · simp only [if_neg q]; exact y8 f (by omega)
        · rw [hp _ (by omega)] at hf
          rw [hp _ (by omega), hp _ (by omega)]; exact y9 f hf
        · rw [hP']
          exact ((c7.pu (k := 47 + P 46) (x := a) (by omega)).pu (k := 51 + P 46) (x := b) (by omega)).pu (k := 46) (x := P 46 + 1) (by omega)
        · have R' : Rest c jn u v := R
          exact R'.fr (fun k hk => by rw [stf_1, if_neg (by omega)]; rfl) (fun k hk => by rw [stf_2, sta_m _ _ _ (by omega), sta_m _ _ _ (by omega)]) (fun k hk => rfl) (fun k hk => by rw [sta_m _ _ _ hk, sta_m _ _ _ hk, sta_m _ _ _ hk]) (fun i hi => by rw [sta_h _ _ (by omega), if_neg (by omega), sta_h _ _ (by omega), if_neg (by omega), sta_h _ _ (by omega), if_neg (by omega)])
    · simp only [e, e', k, k', bd_s, i10, i00]
      exact ⟨_, _, _, rfl, rfl, h⟩
  · simp only [e, e', bd_s, i00]
    exact ⟨_, _, _, rfl, rfl, h⟩
theorem step_plan {u v : St} (h : RR u v) (x0 x1 : Int32) : ∃ (r : Int32) (u' v' : St), pX6_plan LF x0 x1 u = some (r, u') ∧ pX7_plan LF x0 x1 v = some (r, v') ∧ RR u' v' := by
  obtain ⟨c, jn, P, ⟨c1, c2, c3, ⟨y1, y2, y3, y4, y5, y6, y7, y8, y9⟩, c5, c6, c7⟩, R⟩ := id h
  have h55 : P 55 ≤ 6 := c3.2.1
  have h46 : P 46 ≤ 4 := c3.1
  have y4' : u.1 3 = nI (P 55) := y4
  unfold pX6_plan pX7_plan pX0_addHearing
  rcases two_case x0 c1 y1 c5 with ⟨a, a1, rfl, e, e'⟩ | ⟨e, e'⟩
  · rcases two_judge x1 c2 y2 c6 with ⟨b, b1, rfl, k, k'⟩ | ⟨k, k'⟩
    · simp only [e, e', k, k', bd_s, i10, show 4 * 0 + 3 = 3 from rfl, show 13 * 0 + 11 = 11 from rfl, show 13 * 0 + 12 = 12 from rfl]
      rw [L55, gd_i (by omega) (by omega), cl (by omega), c7.g (by omega), L6, ifeq (by omega) (by omega), y4', iflt (by omega) (by omega)]
      by_cases hn : P 55 = 6
      · rw [if_pos hn, if_neg (by omega), bd_s, i00]
        exact ⟨_, _, _, rfl, rfl, h⟩
      · rw [if_neg hn, if_pos (by omega)]
        have q1 : (sta v 0 (nI (56 + P 55)) (nI a)).2 0 55 = nI (P 55) := by rw [sta_h _ _ (by omega), if_neg (by omega), c7.g (by omega)]
        have q2 : (sta (sta v 0 (nI (56 + P 55)) (nI a)) 0 (nI (62 + P 55)) (nI b)).2 0 55 = nI (P 55) := by rw [sta_h _ _ (by omega), if_neg (by omega), q1]
        have q3 : ∀ w x, (sta w 0 (nI 55) x).2 0 55 = x := fun w x => by rw [sta_h _ _ (by omega), if_pos rfl]
        simp (disch := omega) only [gd_i, cl, nI_add, L56, L62, L1, vl_e, sta_1, y4', q1, q2, q3, c7.g]
        rw [bd_s, if_neg (show ¬ nI 1 = 0 by decide), stf_1, if_pos rfl]
        obtain ⟨P', hP'⟩ : ∃ P', P' = pu (pu (pu P (56 + P 55) a) (62 + P 55) b) 55 (P 55 + 1) := ⟨_, rfl⟩
        have hp : ∀ j, j < 55 → P' j = P j := fun j hj => by rw [hP', pu_n _ (by omega), pu_n _ (by omega), pu_n _ (by omega)]
        have hp55 : P' 55 = P 55 + 1 := by rw [hP', pu_s]
        have hp56 : ∀ i, i < 6 → P' (56 + i) = if i = P 55 then a else P (56 + i) := fun i hi => by
          rw [hP', pu_n _ (by omega), pu_n _ (by omega)]
          by_cases q : i = P 55
          · rw [if_pos q, q, pu_s]
          · rw [if_neg q, pu_n _ (by omega)]
        have hp62 : ∀ i, i < 6 → P' (62 + i) = if i = P 55 then b else P (62 + i) := fun i hi => by
          rw [hP', pu_n _ (by omega)]
          by_cases q : i = P 55
          · rw [if_pos q, q, pu_s]
          · rw [if_neg q, pu_n _ (by omega), pu_n _ (by omega)]
        obtain ⟨p1, p2, p3, p4, p5, p6, p7⟩ := c3
        refine ⟨nI (P 55 + 1), _, _, rfl, rfl, c, jn, P', ⟨c1, c2, ⟨by rw [hp _ (by omega)]; exact p1, by omega, fun f hf => ?_, fun f hf => ?_, fun f hf => ?_, fun f hf => ?_, fun f hf => ?_⟩, ⟨y1, y2, by rw [hp 46 (by omega)]; exact y3, by rw [hp55]; rfl, fun f hf => ?_, fun f hf => ?_, fun f hf => ?_, fun f hf => ?_, fun f hf => ?_⟩, c5, c6, ?_⟩, ?_⟩
        · rw [hp _ (by omega), hp _ (by omega), hp _ (by omega)]; exact p3 f hf
        · rw [hp _ (by omega), hp _ (by omega), hp _ (by omega), hp _ (by omega)]; exact p4 f hf
        · rw [hp _ (by omega), hp _ (by omega)]; exact p5 f hf
        · rw [hp _ (by omega)] at hf
          rw [hp _ (by omega), hp _ (by omega)]; exact p6 f hf
        · rw [hp55] at hf
          rw [hp56 f (by omega), hp62 f (by omega)]
          by_cases q : f = P 55
          · rw [if_pos q, if_pos q]; omega
          · rw [if_neg q, if_neg q]; exact p7 f (by omega)
        · rw [hp _ (by omega), hp _ (by omega), hp _ (by omega)]; exact y5 f hf
        · rw [hp _ (by omega), hp _ (by omega), hp _ (by omega), hp _ (by omega)]; exact y6 f hf
        · rw [hp _ (by omega), hp _ (by omega)]; exact y7 f hf
        · rw [hp _ (by omega)] at hf
          rw [hp _ (by omega), hp _ (by omega)]; exact y8 f hf
        · rw [hp55] at hf
          rw [hp56 f (by omega), hp62 f (by omega)]
          show (sta (sta u 11 (nI (P 55)) (nI a)) 12 (nI (P 55)) (nI b)).2 11 f = _ ∧ (sta (sta u 11 (nI (P 55)) (nI a)) 12 (nI (P 55)) (nI b)).2 12 f = _
          rw [sta_m _ _ _ (show 11 ≠ 12 by omega), sta_h _ _ (by omega), sta_h _ _ (by omega), sta_m _ _ _ (show 12 ≠ 11 by omega)]
          by_cases q : f = P 55
          · simp only [if_pos q, and_self]
          · simp only [if_neg q]; exact y9 f (by omega)
        · rw [hP']
          exact ((c7.pu (k := 56 + P 55) (x := a) (by omega)).pu (k := 62 + P 55) (x := b) (by omega)).pu (k := 55) (x := P 55 + 1) (by omega)
        · have R' : Rest c jn u v := R
          exact R'.fr (fun k hk => by rw [stf_1, if_neg (by omega)]; rfl) (fun k hk => by rw [stf_2, sta_m _ _ _ (by omega), sta_m _ _ _ (by omega)]) (fun k hk => rfl) (fun k hk => by rw [sta_m _ _ _ hk, sta_m _ _ _ hk, sta_m _ _ _ hk]) (fun i hi => by rw [sta_h _ _ (by omega), if_neg (by omega), sta_h _ _ (by omega), if_neg (by omega), sta_h _ _ (by omega), if_neg (by omega)])
    · simp only [e, e', k, k', bd_s, i10, i00]
      exact ⟨_, _, _, rfl, rfl, h⟩
  · simp only [e, e', bd_s, i00]
    exact ⟨_, _, _, rfl, rfl, h⟩
end
section
/-! PURE: one number of the page exchanged -/
theorem a00 : (nI 0 = (0 : Int32)) = True := eq_true rfl
theorem a10 : (nI 1 = (0 : Int32)) = False := eq_false (by decide)
theorem a01 : (nI 0 = (1 : Int32)) = False := eq_false (by decide)
theorem a11 : (nI 1 = (1 : Int32)) = True := eq_true rfl
theorem step_train {u v : St} (h : RR u v) (x0 x1 x2 : Int32) : ∃ (r : Int32) (u' v' : St), pX6_train LF x0 x1 x2 u = some (r, u') ∧ pX7_train LF x0 x1 x2 v = some (r, v') ∧ RR u' v' := by
  obtain ⟨c, jn, P, ⟨c1, c2, c3, ⟨y1, y2, y3, y4, y5, y6, y7, y8, y9⟩, c5, c6, c7⟩, R⟩ := id h
  have h46 : P 46 ≤ 4 := c3.1
  have h55 : P 55 ≤ 6 := c3.2.1
  have R' : Rest c jn u v := R
  unfold pX6_train pX7_train pX6_exchange pX7_puts
  rcases two_judge x0 c2 y2 c6 with ⟨a, a1, rfl, e, e'⟩ | ⟨e, e'⟩
  · obtain ⟨z1, z2⟩ := y7 a a1
    have z1' : u.2 7 a = nI (P (40 + a)) := z1
    have z2' : u.2 8 a = nI (P (43 + a)) := z2
    obtain ⟨p1, p2, p3, p4, p5, p6, p7⟩ := c3
    rcases rng x1 (a0 := 0) (b0 := 1) (a1 := 0) (b1 := 1) 0 1 rfl rfl rfl rfl (by omega) (by omega) with ⟨d, d1, d2, rfl, k, -⟩ | ⟨m, k, -⟩
    · have hd : d = 0 ∨ d = 1 := by omega
      rcases hd with rfl | rfl
      · rcases rng x2 (a0 := 0) (b0 := 3) (a1 := 0) (b1 := 3) 0 3 rfl rfl rfl rfl (by omega) (by omega) with ⟨b, b1, b2, rfl, q, q'⟩ | ⟨-, q, q'⟩
        · simp only [e, e', k, q, q', bd_s, i10, jn_e, vl_e, a00, if_true]
          simp (disch := omega) only [L40, L3, pk_mul, nI_add, show lenX 7 = 3 from rfl, gd_i, cl, bd_s, z1', c7.g]
          refine ⟨nI (P (40 + a)), _, sta v 0 (nI (40 + a)) (nI b), rfl, by rw [show 40 + 3 * 0 + a = 40 + a by omega], c, jn, pu P (40 + a) b, ⟨c1, c2, ⟨by rw [pu_n P (by omega)]; exact p1, by rw [pu_n P (by omega)]; exact p2, fun f hf => ?_, fun f hf => ?_, fun f hf => ?_, fun f hf => ?_, fun f hf => ?_⟩, ⟨y1, y2, by rw [pu_n P (by omega)]; exact y3, by rw [pu_n P (by omega)]; exact y4, fun f hf => ?_, fun f hf => ?_, fun f hf => ?_, fun f hf => ?_, fun f hf => ?_⟩, c5, c6, c7.pu (k := 40 + a) (by omega)⟩, ?_⟩
          · rw [pu_n P (by omega), pu_n P (by omega), pu_n P (by omega)]; exact p3 f hf
          · rw [pu_n P (by omega), pu_n P (by omega), pu_n P (by omega), pu_n P (by omega)]; exact p4 f hf
          · rw [pu_n P (show 43 + f ≠ 40 + a by omega)]
            refine ⟨?_, (p5 f hf).2⟩
            by_cases w : f = a
            · rw [w, pu_s]; omega
            · rw [pu_n P (by omega)]; exact (p5 f hf).1
          · rw [pu_n P (by omega)] at hf
            rw [pu_n P (by omega), pu_n P (by omega)]; exact p6 f hf
          · rw [pu_n P (by omega)] at hf
            rw [pu_n P (by omega), pu_n P (by omega)]; exact p7 f hf
          · rw [pu_n P (by omega), pu_n P (by omega), pu_n P (by omega)]; exact y5 f hf
          · rw [pu_n P (by omega), pu_n P (by omega), pu_n P (by omega), pu_n P (by omega)]; exact y6 f hf
          · rw [pu_n P (show 43 + f ≠ 40 + a by omega)]
            refine ⟨?_, (y7 f hf).2⟩
            show (sta u 7 (nI a) (nI b)).2 7 f = _
            rw [sta_h _ _ (by omega)]
            by_cases w : f = a
            · rw [if_pos w, w, pu_s]
            · rw [if_neg w, pu_n P (by omega)]; exact (y7 f hf).1
          · rw [pu_n P (by omega)] at hf
            rw [pu_n P (by omega), pu_n P (by omega)]; exact y8 f hf
          · rw [pu_n P (by omega)] at hf
            rw [pu_n P (by omega), pu_n P (by omega)]; exact y9 f hf
          · exact R'.fr (fun k hk => rfl) (fun k hk => by rw [sta_m _ _ _ (by omega)]) (fun k hk => rfl) (fun k hk => by rw [sta_m _ _ _ hk]) (fun i hi => by rw [sta_h _ _ (by omega), if_neg (by omega)])
        · simp only [e, e', k, q, q', bd_s, i10, i00, jn_e, vl_e, a00, a01, if_true, if_false]
          exact ⟨_, _, _, rfl, rfl, h⟩
      · rcases rng x2 (a0 := 1) (b0 := 9) (a1 := 1) (b1 := 9) 1 9 rfl rfl rfl rfl (by omega) (by omega) with ⟨b, b1, b2, rfl, q, q'⟩ | ⟨-, q, q'⟩
        · simp only [e, e', k, q, q', bd_s, i10, jn_e, vl_e, a10, a11, if_true, if_false]
          simp (disch := omega) only [L40, L3, pk_mul, nI_add, show lenX 8 = 3 from rfl, gd_i, cl, bd_s, z2', c7.g]
          refine ⟨nI (P (43 + a)), _, sta v 0 (nI (43 + a)) (nI b), rfl, by rw [show 40 + 3 * 1 + a = 43 + a by omega], c, jn, pu P (43 + a) b, ⟨c1, c2, ⟨by rw [pu_n P (by omega)]; exact p1, by rw [pu_n P (by omega)]; exact p2, fun f hf => ?_, fun f hf => ?_, fun f hf => ?_, fun f hf => ?_, fun f hf => ?_⟩, ⟨y1, y2, by rw [pu_n P (by omega)]; exact y3, by rw [pu_n P (by omega)]; exact y4, fun f hf => ?_, fun f hf => ?_, fun f hf => ?_, fun f hf => ?_, fun f hf => ?_⟩, c5, c6, c7.pu (k := 43 + a) (by omega)⟩, ?_⟩
          · rw [pu_n P (by omega), pu_n P (by omega), pu_n P (by omega)]; exact p3 f hf
          · rw [pu_n P (by omega), pu_n P (by omega), pu_n P (by omega), pu_n P (by omega)]; exact p4 f hf
          · rw [pu_n P (show 40 + f ≠ 43 + a by omega)]
            refine ⟨(p5 f hf).1, ?_⟩
            by_cases w : f = a
            · rw [w, pu_s]; omega
            · rw [pu_n P (by omega)]; exact (p5 f hf).2
          · rw [pu_n P (by omega)] at hf
            rw [pu_n P (by omega), pu_n P (by omega)]; exact p6 f hf
          · rw [pu_n P (by omega)] at hf
            rw [pu_n P (by omega), pu_n P (by omega)]; exact p7 f hf
          · rw [pu_n P (by omega), pu_n P (by omega), pu_n P (by omega)]; exact y5 f hf
          · rw [pu_n P (by omega), pu_n P (by omega), pu_n P (by omega), pu_n P (by omega)]; exact y6 f hf
          · rw [pu_n P (show 40 + f ≠ 43 + a by omega)]
            refine ⟨(y7 f hf).1, ?_⟩
            show (sta u 8 (nI a) (nI b)).2 8 f = _
            rw [sta_h _ _ (by omega)]
            by_cases w : f = a
            · rw [if_pos w, w, pu_s]
            · rw [if_neg w, pu_n P (by omega)]; exact (y7 f hf).2
          · rw [pu_n P (by omega)] at hf
            rw [pu_n P (by omega), pu_n P (by omega)]; exact y8 f hf
          · rw [pu_n P (by omega)] at hf
            rw [pu_n P (by omega), pu_n P (by omega)]; exact y9 f hf
          · exact R'.fr (fun k hk => rfl) (fun k hk => by rw [sta_m _ _ _ (by omega)]) (fun k hk => rfl) (fun k hk => by rw [sta_m _ _ _ hk]) (fun i hi => by rw [sta_h _ _ (by omega), if_neg (by omega)])
        · simp only [e, e', k, q, q', bd_s, i10, i00, jn_e, vl_e, a10, a11, if_true, if_false]
          exact ⟨_, _, _, rfl, rfl, h⟩
    · have n0 : (x1 = (0 : Int32)) = False := eq_false (by rw [L0]; exact rng_ne m (by omega) (by omega))
      have n1 : (x1 = (1 : Int32)) = False := eq_false (by rw [L1]; exact rng_ne m (by omega) (by omega))
      simp only [e, e', k, bd_s, i10, i00, jn_e, vl_e, n0, n1, if_false]
      exact ⟨_, _, _, rfl, rfl, h⟩
  · simp only [e, e', bd_s, i00, jn_e]
    exact ⟨_, _, _, rfl, rfl, h⟩
end
section
/-! PURE: the memory -/
theorem step_forget {u v : St} (h : RR u v) (x0 : Int32) : ∃ (r : Int32) (u' v' : St), pX6_forget LF x0 u = some (r, u') ∧ pX7_forget LF x0 v = some (r, v') ∧ RR u' v' := by
  obtain ⟨c, jn, P, hC, i0, i1, ⟨n, n1, n2, n3, n4⟩, ht, hw, htn, hsh, hc⟩ := id h
  unfold pX6_forget pX7_forget
  have hb : (nI n).toInt = (n : Int) := tI (by omega)
  rcases rng x0 (a0 := 0) (b0 := nI n) (a1 := 0) (b1 := Int32.toInt64 (nI n)) 0 n rfl rfl hb (by rw [tI64]; exact hb) (by omega) (by omega) with ⟨b, b1, b2, rfl, e, e'⟩ | ⟨-, e, e'⟩
  · rw [n2, n3, e, e', bd_s, bd_s, i10, i10]
    simp only [vl_e, n2, n3]
    exact ⟨nI n, _, _, rfl, rfl, c, jn, P, hC, i0, i1, ⟨b, by omega, rfl, rfl, fun i hi => n4 i (by omega)⟩, ht, hw, htn, hsh, hc⟩
  · rw [n2, n3, e, e', bd_s, bd_s, i00, i00]
    exact ⟨_, _, _, rfl, rfl, h⟩
theorem step_see {u v : St} (h : RR u v) (x0 x1 x2 : Int32) : ∃ (r : Int32) (u' v' : St), pX6_see LF x0 x1 x2 u = some (r, u') ∧ pX7_see LF x0 x1 x2 v = some (r, v') ∧ RR u' v' := by
  obtain ⟨c, jn, P, hC, i0, i1, ⟨n, n1, n2, n3, n4⟩, ht, hw, htn, hsh, hc⟩ := id h
  obtain ⟨c1, c2, c3, ⟨y1, y2, -⟩, c5, c6, c7⟩ := id hC
  unfold pX6_see pX7_see pX7_isHeard pX1_add
  rcases two_case x0 c1 y1 c5 with ⟨a, a1, rfl, e, e'⟩ | ⟨e, e'⟩
  · rcases two_judge x1 c2 y2 c6 with ⟨b, b1, rfl, k, k'⟩ | ⟨k, k'⟩
    · rcases rng x2 (a0 := 1) (b0 := 3) (a1 := 1) (b1 := 3) 1 3 rfl rfl rfl rfl (by omega) (by omega) with ⟨d, d1, d2, rfl, q, q'⟩ | ⟨-, q, q'⟩
      · simp only [e, e', k, k', q, q', bd_s, i10, n2, n3]
        rw [L6, ifeq (by omega) (by omega), iflt (by omega) (by omega)]
        by_cases hn : n = 6
        · rw [if_pos hn, if_neg (by omega), bd_s, i00]
          exact ⟨_, _, _, rfl, rfl, h⟩
        · rw [if_neg hn, if_pos (by omega)]
          simp (disch := omega) only [L1, L2, L3, pk_mul, nI_add, gd_i, vl_e, sta_1, n2, n3]
          rw [bd_s, if_neg (show ¬ nI 1 = 0 by decide), stf_1, stf_1, if_pos rfl, if_pos rfl]
          refine ⟨nI (n + 1), _, _, rfl, rfl, c, jn, P, hC, i0, i1, ⟨n + 1, by omega, rfl, rfl, fun i hi => ?_⟩, ht, hw, htn, hsh, hc⟩
          show ∃ a' b' d' : Nat, a' < c ∧ b' < jn ∧ 1 ≤ d' ∧ d' ≤ 3 ∧ (sta (sta (sta u 60 (nI n) (nI a)) 61 (nI n) (nI b)) 62 (nI n) (nI d)).2 60 i = nI a' ∧ (sta (sta (sta u 60 (nI n) (nI a)) 61 (nI n) (nI b)) 62 (nI n) (nI d)).2 61 i = nI b' ∧ (sta (sta (sta u 60 (nI n) (nI a)) 61 (nI n) (nI b)) 62 (nI n) (nI d)).2 62 i = nI d' ∧ (sta (sta (sta v 7 (nI (3 * n)) (nI a)) 7 (nI (3 * n + 1)) (nI b)) 7 (nI (3 * n + 2)) (nI d)).2 7 (3 * i) = nI a' ∧ (sta (sta (sta v 7 (nI (3 * n)) (nI a)) 7 (nI (3 * n + 1)) (nI b)) 7 (nI (3 * n + 2)) (nI d)).2 7 (3 * i + 1) = nI b' ∧ (sta (sta (sta v 7 (nI (3 * n)) (nI a)) 7 (nI (3 * n + 1)) (nI b)) 7 (nI (3 * n + 2)) (nI d)).2 7 (3 * i + 2) = nI d'
          rw [sta_m _ _ _ (show 60 ≠ 62 by omega), sta_m _ _ _ (show 60 ≠ 61 by omega), sta_h _ _ (by omega), sta_m _ _ _ (show 61 ≠ 62 by omega), sta_h _ _ (by omega), sta_m _ _ _ (show 61 ≠ 60 by omega), sta_h _ _ (by omega), sta_m _ _ _ (show 62 ≠ 61 by omega), sta_m _ _ _ (show 62 ≠ 60 by omega)]
          simp only [sta_h v 7 (show 3 * n < 2147483648 by omega), sta_h _ 7 (show 3 * n + 1 < 2147483648 by omega), sta_h _ 7 (show 3 * n + 2 < 2147483648 by omega)]
          by_cases w : i = n
          · refine ⟨a, b, d, a1, b1, by omega, by omega, by rw [if_pos w], by rw [if_pos w], by rw [if_pos w], ?_, ?_, ?_⟩
            · rw [if_neg (by omega), if_neg (by omega), if_pos (by omega)]
            · rw [if_neg (by omega), if_pos (by omega)]
            · rw [if_pos (by omega)]
          · obtain ⟨a', b', d', m1, m2, m3, m4, m5, m6, m7, m8, m9, m10⟩ := n4 i (by omega)
            refine ⟨a', b', d', m1, m2, m3, m4, by rw [if_neg w]; exact m5, by rw [if_neg w]; exact m6, by rw [if_neg w]; exact m7, ?_, ?_, ?_⟩
            · rw [if_neg (by omega), if_neg (by omega), if_neg (by omega)]; exact m8
            · rw [if_neg (by omega), if_neg (by omega), if_neg (by omega)]; exact m9
            · rw [if_neg (by omega), if_neg (by omega), if_neg (by omega)]; exact m10
      · simp only [e, e', k, k', q, q', bd_s, i10, i00]
        exact ⟨_, _, _, rfl, rfl, h⟩
    · simp only [e, e', k, k', bd_s, i10, i00]
      exact ⟨_, _, _, rfl, rfl, h⟩
  · simp only [e, e', bd_s, i00]
    exact ⟨_, _, _, rfl, rfl, h⟩
end
section
/-! PURE: a flame trimmed -/
theorem RR.fl0 {c jn : Nat} {P : Nat → Nat} {u v : St} (hC : RCourt c jn P u v) (R : Rest c jn u v) {g t : Nat} (hg : g < 2 * c) (ht : t ≤ 3) : RR (sta u 0 (nI g) (nI t)) (sta v 0 (nI (0 + g)) (nI t)) := by
  obtain ⟨c1, c2, ⟨p1, p2, p3, p4, p5, p6, p7⟩, ⟨y1, y2, y3, y4, y5, y6, y7, y8, y9⟩, c5, c6, c7⟩ := hC
  refine ⟨c, jn, pu P (0 + g) t, ⟨c1, c2, ⟨by rw [pu_n P (by omega)]; exact p1, by rw [pu_n P (by omega)]; exact p2, fun f hf => ?_, fun f hf => ?_, fun f hf => ?_, fun f hf => ?_, fun f hf => ?_⟩, ⟨y1, y2, by rw [pu_n P (by omega)]; exact y3, by rw [pu_n P (by omega)]; exact y4, fun f hf => ?_, fun f hf => ?_, fun f hf => ?_, fun f hf => ?_, fun f hf => ?_⟩, c5, c6, c7.pu (k := 0 + g) (by omega)⟩, ?_⟩
  · rw [pu_n P (show 8 + f ≠ 0 + g by omega), pu_n P (show 16 + f ≠ 0 + g by omega)]
    obtain ⟨w0, w1, w2⟩ := p3 f hf
    have w : pu P (0 + g) t (f) ≤ 3 := by
      by_cases w : f = g
      · rw [w, Nat.zero_add, pu_s]; exact ht
      · rw [pu_n P (by omega)]; omega
    exact ⟨w, w1, w2⟩
  · rw [pu_n P (by omega), pu_n P (by omega), pu_n P (by omega), pu_n P (by omega)]; exact p4 f hf
  · rw [pu_n P (by omega), pu_n P (by omega)]; exact p5 f hf
  · rw [pu_n P (by omega)] at hf
    rw [pu_n P (by omega), pu_n P (by omega)]; exact p6 f hf
  · rw [pu_n P (by omega)] at hf
    rw [pu_n P (by omega), pu_n P (by omega)]; exact p7 f hf
  · rw [pu_n P (show 8 + f ≠ 0 + g by omega), pu_n P (show 16 + f ≠ 0 + g by omega)]
    obtain ⟨w0, w1, w2⟩ := y5 f hf
    have w : (sta u 0 (nI g) (nI t)).2 0 f = nI (pu P (0 + g) t (f)) := by
      rw [sta_h _ _ (by omega)]
      by_cases w : f = g
      · rw [if_pos w, w, Nat.zero_add, pu_s]
      · rw [if_neg w, pu_n P (by omega)]; exact w0
    exact ⟨w, w1, w2⟩
  · rw [pu_n P (by omega), pu_n P (by omega), pu_n P (by omega), pu_n P (by omega)]; exact y6 f hf
  · rw [pu_n P (by omega), pu_n P (by omega)]; exact y7 f hf
  · rw [pu_n P (by omega)] at hf
    rw [pu_n P (by omega), pu_n P (by omega)]; exact y8 f hf
  · rw [pu_n P (by omega)] at hf
    rw [pu_n P (by omega), pu_n P (by omega)]; exact y9 f hf
  · exact R.fr (fun k hk => rfl) (fun k hk => by rw [sta_m _ _ _ (by omega)]) (fun k hk => rfl) (fun k hk => by rw [sta_m _ _ _ hk]) (fun i hi => by rw [sta_h _ _ (by omega), if_neg (by omega)])
theorem RR.fl1 {c jn : Nat} {P : Nat → Nat} {u v : St} (hC : RCourt c jn P u v) (R : Rest c jn u v) {g t : Nat} (hg : g < 2 * c) (ht : t ≤ 99) : RR (sta u 1 (nI g) (nI t)) (sta v 0 (nI (8 + g)) (nI t)) := by
  obtain ⟨c1, c2, ⟨p1, p2, p3, p4, p5, p6, p7⟩, ⟨y1, y2, y3, y4, y5, y6, y7, y8, y9⟩, c5, c6, c7⟩ := hC
  refine ⟨c, jn, pu P (8 + g) t, ⟨c1, c2, ⟨by rw [pu_n P (by omega)]; exact p1, by rw [pu_n P (by omega)]; exact p2, fun f hf => ?_, fun f hf => ?_, fun f hf => ?_, fun f hf => ?_, fun f hf => ?_⟩, ⟨y1, y2, by rw [pu_n P (by omega)]; exact y3, by rw [pu_n P (by omega)]; exact y4, fun f hf => ?_, fun f hf => ?_, fun f hf => ?_, fun f hf => ?_, fun f hf => ?_⟩, c5, c6, c7.pu (k := 8 + g) (by omega)⟩, ?_⟩
  · rw [pu_n P (show f ≠ 8 + g by omega), pu_n P (show 16 + f ≠ 8 + g by omega)]
    obtain ⟨w0, w1, w2⟩ := p3 f hf
    have w : pu P (8 + g) t (8 + f) ≤ 99 := by
      by_cases w : f = g
      · rw [w, show 8 + g = 8 + g by omega, pu_s]; exact ht
      · rw [pu_n P (by omega)]; omega
    exact ⟨w0, w, w2⟩
  · rw [pu_n P (by omega), pu_n P (by omega), pu_n P (by omega), pu_n P (by omega)]; exact p4 f hf
  · rw [pu_n P (by omega), pu_n P (by omega)]; exact p5 f hf
  · rw [pu_n P (by omega)] at hf
    rw [pu_n P (by omega), pu_n P (by omega)]; exact p6 f hf
  · rw [pu_n P (by omega)] at hf
    rw [pu_n P (by omega), pu_n P (by omega)]; exact p7 f hf
  · rw [pu_n P (show f ≠ 8 + g by omega), pu_n P (show 16 + f ≠ 8 + g by omega)]
    obtain ⟨w0, w1, w2⟩ := y5 f hf
    have w : (sta u 1 (nI g) (nI t)).2 1 f = nI (pu P (8 + g) t (8 + f)) := by
      rw [sta_h _ _ (by omega)]
      by_cases w : f = g
      · rw [if_pos w, w, show 8 + g = 8 + g by omega, pu_s]
      · rw [if_neg w, pu_n P (by omega)]; exact w1
    exact ⟨w0, w, w2⟩
  · rw [pu_n P (by omega), pu_n P (by omega), pu_n P (by omega), pu_n P (by omega)]; exact y6 f hf
  · rw [pu_n P (by omega), pu_n P (by omega)]; exact y7 f hf
  · rw [pu_n P (by omega)] at hf
    rw [pu_n P (by omega), pu_n P (by omega)]; exact y8 f hf
  · rw [pu_n P (by omega)] at hf
    rw [pu_n P (by omega), pu_n P (by omega)]; exact y9 f hf
  · exact R.fr (fun k hk => rfl) (fun k hk => by rw [sta_m _ _ _ (by omega)]) (fun k hk => rfl) (fun k hk => by rw [sta_m _ _ _ hk]) (fun i hi => by rw [sta_h _ _ (by omega), if_neg (by omega)])
theorem RR.fl2 {c jn : Nat} {P : Nat → Nat} {u v : St} (hC : RCourt c jn P u v) (R : Rest c jn u v) {g t : Nat} (hg : g < 2 * c) (ht : t ≤ 9) : RR (sta u 2 (nI g) (nI t)) (sta v 0 (nI (16 + g)) (nI t)) := by
  obtain ⟨c1, c2, ⟨p1, p2, p3, p4, p5, p6, p7⟩, ⟨y1, y2, y3, y4, y5, y6, y7, y8, y9⟩, c5, c6, c7⟩ := hC
  refine ⟨c, jn, pu P (16 + g) t, ⟨c1, c2, ⟨by rw [pu_n P (by omega)]; exact p1, by rw [pu_n P (by omega)]; exact p2, fun f hf => ?_, fun f hf => ?_, fun f hf => ?_, fun f hf => ?_, fun f hf => ?_⟩, ⟨y1, y2, by rw [pu_n P (by omega)]; exact y3, by rw [pu_n P (by omega)]; exact y4, fun f hf => ?_, fun f hf => ?_, fun f hf => ?_, fun f hf => ?_, fun f hf => ?_⟩, c5, c6, c7.pu (k := 16 + g) (by omega)⟩, ?_⟩
  · rw [pu_n P (show f ≠ 16 + g by omega), pu_n P (show 8 + f ≠ 16 + g by omega)]
    obtain ⟨w0, w1, w2⟩ := p3 f hf
    have w : pu P (16 + g) t (16 + f) ≤ 9 := by
      by_cases w : f = g
      · rw [w, show 16 + g = 16 + g by omega, pu_s]; exact ht
      · rw [pu_n P (by omega)]; omega
    exact ⟨w0, w1, w⟩
  · rw [pu_n P (by omega), pu_n P (by omega), pu_n P (by omega), pu_n P (by omega)]; exact p4 f hf
  · rw [pu_n P (by omega), pu_n P (by omega)]; exact p5 f hf
  · rw [pu_n P (by omega)] at hf
    rw [pu_n P (by omega), pu_n P (by omega)]; exact p6 f hf
  · rw [pu_n P (by omega)] at hf
    rw [pu_n P (by omega), pu_n P (by omega)]; exact p7 f hf
  · rw [pu_n P (show f ≠ 16 + g by omega), pu_n P (show 8 + f ≠ 16 + g by omega)]
    obtain ⟨w0, w1, w2⟩ := y5 f hf
    have w : (sta u 2 (nI g) (nI t)).2 2 f = nI (pu P (16 + g) t (16 + f)) := by
      rw [sta_h _ _ (by omega)]
      by_cases w : f = g
      · rw [if_pos w, w, show 16 + g = 16 + g by omega, pu_s]
      · rw [if_neg w, pu_n P (by omega)]; exact w2
    exact ⟨w0, w1, w⟩
  · rw [pu_n P (by omega), pu_n P (by omega), pu_n P (by omega), pu_n P (by omega)]; exact y6 f hf
  · rw [pu_n P (by omega), pu_n P (by omega)]; exact y7 f hf
  · rw [pu_n P (by omega)] at hf
    rw [pu_n P (by omega), pu_n P (by omega)]; exact y8 f hf
  · rw [pu_n P (by omega)] at hf
    rw [pu_n P (by omega), pu_n P (by omega)]; exact y9 f hf
  · exact R.fr (fun k hk => rfl) (fun k hk => by rw [sta_m _ _ _ (by omega)]) (fun k hk => rfl) (fun k hk => by rw [sta_m _ _ _ hk]) (fun i hi => by rw [sta_h _ _ (by omega), if_neg (by omega)])
end
section
/-! PURE: trim -/
theorem t20 : (nI 2 = (0 : Int32)) = False := eq_false (by decide)
theorem t21 : (nI 2 = (1 : Int32)) = False := eq_false (by decide)
theorem t22 : (nI 2 = (2 : Int32)) = True := eq_true rfl
theorem step_trim {u v : St} (h : RR u v) (x0 x1 x2 x3 : Int32) : ∃ (r : Int32) (u' v' : St), pX6_trim LF x0 x1 x2 x3 u = some (r, u') ∧ pX7_trim LF x0 x1 x2 x3 v = some (r, v') ∧ RR u' v' := by
  obtain ⟨c, jn, P, hC, R⟩ := id h
  obtain ⟨c1, c2, c3, ⟨y1, y2, y3, y4, y5, y6, y7, y8, y9⟩, c5, c6, c7⟩ := id hC
  have R' : Rest c jn u v := R
  unfold pX6_trim pX6_isFlame pX7_trim pX6_exchange pX7_puts
  rcases rng x2 (a0 := 0) (b0 := 2) (a1 := 0) (b1 := 2) 0 2 rfl rfl rfl rfl (by omega) (by omega) with ⟨d, d1, d2, rfl, m, -⟩ | ⟨m, m0, -⟩
  · have hd : d = 0 ∨ d = 1 ∨ d = 2 := by omega
    rcases hd with rfl | rfl | rfl
    · rcases rng x3 (a0 := 0) (b0 := 3) (a1 := 0) (b1 := 3) 0 3 rfl rfl rfl rfl (by omega) (by omega) with ⟨t, t1, t2, rfl, q, q'⟩ | ⟨-, q, q'⟩
      · rcases two_case x0 c1 y1 c5 with ⟨a, a1, rfl, e, e'⟩ | ⟨e, e'⟩
        · rcases two_side x1 with ⟨b, b1, rfl, k, k'⟩ | ⟨k, k'⟩
          · have z0 : u.2 3 a = nI (P (24 + a)) := (y6 a a1).1
            have z1 : u.2 0 (2 * a + b) = nI (P (2 * a + b)) := (y5 (2 * a + b) (by omega)).1
            have hv := (c3.2.2.2.1 a a1).1
            have hB : tabFLAME_BOUNDS (nI 0).toNatClampNeg = 3 := by decide +kernel
            simp only [e, e', k, k', m, q, q', bd_s, i10, i00, jn_e, vl_e, hB, a00, a10, a01, a11, t20, t21, t22, if_true, if_false]
            simp (disch := omega) only [L2, L3, L8, L24, pk_mul, nI_add, gd_i, cl, z0, c7.g, show lenX 0 = 8 from rfl, z1]
            rw [L0]
            simp (disch := omega) only [ifeq]
            by_cases w : P (24 + a) = 0
            · simp only [w, if_true, bd_s]
              exact ⟨nI (P (2 * a + b)), _, sta v 0 (nI (8 * 0 + 2 * a + b)) (nI t), rfl, by rw [show 8 * 0 + 2 * a + b = 2 * a + b by omega], by
                rw [show 8 * 0 + 2 * a + b = 0 + (2 * a + b) by omega]
                exact RR.fl0 hC R' (by omega) (by omega)⟩
            · simp only [w, if_false, bd_s]
              exact ⟨_, _, _, rfl, rfl, h⟩
          · simp only [e, e', k, k', m, q, q', bd_s, i10, i00, jn_e, a00, a10, a01, a11, t20, t21, t22, if_true, if_false]
            exact ⟨_, _, _, rfl, rfl, h⟩
        · simp only [e, e', m, q, q', bd_s, i10, i00, jn_e, a00, a10, a01, a11, t20, t21, t22, if_true, if_false]
          exact ⟨_, _, _, rfl, rfl, h⟩
      · have hB : tabFLAME_BOUNDS (nI 0).toNatClampNeg = 3 := by decide +kernel
        have g3 : inb (nI 0) 3 = true := inb_nI (by omega) (by omega)
        rcases two_case x0 c1 y1 c5 with ⟨a, a1, rfl, e, e'⟩ | ⟨e, e'⟩
        · rcases two_side x1 with ⟨b, b1, rfl, k, k'⟩ | ⟨k, k'⟩
          · simp only [e, e', k, k', m, q, q', bd_s, i10, i00, jn_e, hB, g3, gd_true, a00, a10, a01, a11, t20, t21, t22, if_true, if_false]
            exact ⟨_, _, _, rfl, rfl, h⟩
          · simp only [e, e', k, k', m, q, q', bd_s, i10, i00, jn_e, a00, a10, a01, a11, t20, t21, t22, if_true, if_false]
            exact ⟨_, _, _, rfl, rfl, h⟩
        · simp only [e, e', m, q, q', bd_s, i10, i00, jn_e, a00, a10, a01, a11, t20, t21, t22, if_true, if_false]
          exact ⟨_, _, _, rfl, rfl, h⟩
    · rcases rng x3 (a0 := 0) (b0 := 99) (a1 := 0) (b1 := 99) 0 99 rfl rfl rfl rfl (by omega) (by omega) with ⟨t, t1, t2, rfl, q, q'⟩ | ⟨-, q, q'⟩
      · rcases two_case x0 c1 y1 c5 with ⟨a, a1, rfl, e, e'⟩ | ⟨e, e'⟩
        · rcases two_side x1 with ⟨b, b1, rfl, k, k'⟩ | ⟨k, k'⟩
          · have z0 : u.2 3 a = nI (P (24 + a)) := (y6 a a1).1
            have z1 : u.2 1 (2 * a + b) = nI (P (8 + (2 * a + b))) := (y5 (2 * a + b) (by omega)).2.1
            have hv := (c3.2.2.2.1 a a1).1
            have hB : tabFLAME_BOUNDS (nI 1).toNatClampNeg = 99 := by decide +kernel
            simp only [e, e', k, k', m, q, q', bd_s, i10, i00, jn_e, vl_e, hB, a00, a10, a01, a11, t20, t21, t22, if_true, if_false]
            simp (disch := omega) only [L2, L3, L8, L24, pk_mul, nI_add, gd_i, cl, z0, c7.g, show lenX 1 = 8 from rfl, z1]
            rw [L0]
            simp (disch := omega) only [ifeq]
            by_cases w : P (24 + a) = 0
            · simp only [w, if_true, bd_s]
              exact ⟨nI (P (8 + (2 * a + b))), _, sta v 0 (nI (8 * 1 + 2 * a + b)) (nI t), rfl, by rw [show 8 * 1 + 2 * a + b = 8 + (2 * a + b) by omega], by
                rw [show 8 * 1 + 2 * a + b = 8 + (2 * a + b) by omega]
                exact RR.fl1 hC R' (by omega) (by omega)⟩
            · simp only [w, if_false, bd_s]
              exact ⟨_, _, _, rfl, rfl, h⟩
          · simp only [e, e', k, k', m, q, q', bd_s, i10, i00, jn_e, a00, a10, a01, a11, t20, t21, t22, if_true, if_false]
            exact ⟨_, _, _, rfl, rfl, h⟩
        · simp only [e, e', m, q, q', bd_s, i10, i00, jn_e, a00, a10, a01, a11, t20, t21, t22, if_true, if_false]
          exact ⟨_, _, _, rfl, rfl, h⟩
      · have hB : tabFLAME_BOUNDS (nI 1).toNatClampNeg = 99 := by decide +kernel
        have g3 : inb (nI 1) 3 = true := inb_nI (by omega) (by omega)
        rcases two_case x0 c1 y1 c5 with ⟨a, a1, rfl, e, e'⟩ | ⟨e, e'⟩
        · rcases two_side x1 with ⟨b, b1, rfl, k, k'⟩ | ⟨k, k'⟩
          · simp only [e, e', k, k', m, q, q', bd_s, i10, i00, jn_e, hB, g3, gd_true, a00, a10, a01, a11, t20, t21, t22, if_true, if_false]
            exact ⟨_, _, _, rfl, rfl, h⟩
          · simp only [e, e', k, k', m, q, q', bd_s, i10, i00, jn_e, a00, a10, a01, a11, t20, t21, t22, if_true, if_false]
            exact ⟨_, _, _, rfl, rfl, h⟩
        · simp only [e, e', m, q, q', bd_s, i10, i00, jn_e, a00, a10, a01, a11, t20, t21, t22, if_true, if_false]
          exact ⟨_, _, _, rfl, rfl, h⟩
    · rcases rng x3 (a0 := 0) (b0 := 9) (a1 := 0) (b1 := 9) 0 9 rfl rfl rfl rfl (by omega) (by omega) with ⟨t, t1, t2, rfl, q, q'⟩ | ⟨-, q, q'⟩
      · rcases two_case x0 c1 y1 c5 with ⟨a, a1, rfl, e, e'⟩ | ⟨e, e'⟩
        · rcases two_side x1 with ⟨b, b1, rfl, k, k'⟩ | ⟨k, k'⟩
          · have z0 : u.2 3 a = nI (P (24 + a)) := (y6 a a1).1
            have z1 : u.2 2 (2 * a + b) = nI (P (16 + (2 * a + b))) := (y5 (2 * a + b) (by omega)).2.2
            have hv := (c3.2.2.2.1 a a1).1
            have hB : tabFLAME_BOUNDS (nI 2).toNatClampNeg = 9 := by decide +kernel
            simp only [e, e', k, k', m, q, q', bd_s, i10, i00, jn_e, vl_e, hB, a00, a10, a01, a11, t20, t21, t22, if_true, if_false]
            simp (disch := omega) only [L2, L3, L8, L24, pk_mul, nI_add, gd_i, cl, z0, c7.g, show lenX 2 = 8 from rfl, z1]
            rw [L0]
            simp (disch := omega) only [ifeq]
            by_cases w : P (24 + a) = 0
            · simp only [w, if_true, bd_s]
              exact ⟨nI (P (16 + (2 * a + b))), _, sta v 0 (nI (8 * 2 + 2 * a + b)) (nI t), rfl, by rw [show 8 * 2 + 2 * a + b = 16 + (2 * a + b) by omega], by
                rw [show 8 * 2 + 2 * a + b = 16 + (2 * a + b) by omega]
                exact RR.fl2 hC R' (by omega) (by omega)⟩
            · simp only [w, if_false, bd_s]
              exact ⟨_, _, _, rfl, rfl, h⟩
          · simp only [e, e', k, k', m, q, q', bd_s, i10, i00, jn_e, a00, a10, a01, a11, t20, t21, t22, if_true, if_false]
            exact ⟨_, _, _, rfl, rfl, h⟩
        · simp only [e, e', m, q, q', bd_s, i10, i00, jn_e, a00, a10, a01, a11, t20, t21, t22, if_true, if_false]
          exact ⟨_, _, _, rfl, rfl, h⟩
      · have hB : tabFLAME_BOUNDS (nI 2).toNatClampNeg = 9 := by decide +kernel
        have g3 : inb (nI 2) 3 = true := inb_nI (by omega) (by omega)
        rcases two_case x0 c1 y1 c5 with ⟨a, a1, rfl, e, e'⟩ | ⟨e, e'⟩
        · rcases two_side x1 with ⟨b, b1, rfl, k, k'⟩ | ⟨k, k'⟩
          · simp only [e, e', k, k', m, q, q', bd_s, i10, i00, jn_e, hB, g3, gd_true, a00, a10, a01, a11, t20, t21, t22, if_true, if_false]
            exact ⟨_, _, _, rfl, rfl, h⟩
          · simp only [e, e', k, k', m, q, q', bd_s, i10, i00, jn_e, a00, a10, a01, a11, t20, t21, t22, if_true, if_false]
            exact ⟨_, _, _, rfl, rfl, h⟩
        · simp only [e, e', m, q, q', bd_s, i10, i00, jn_e, a00, a10, a01, a11, t20, t21, t22, if_true, if_false]
          exact ⟨_, _, _, rfl, rfl, h⟩
  · have n0 : (x2 = (0 : Int32)) = False := eq_false (by rw [L0]; exact rng_ne m (by omega) (by omega))
    have n1 : (x2 = (1 : Int32)) = False := eq_false (by rw [L1]; exact rng_ne m (by omega) (by omega))
    have n2 : (x2 = (2 : Int32)) = False := eq_false (by rw [L2]; exact rng_ne m (by omega) (by omega))
    rcases two_case x0 c1 y1 c5 with ⟨a, a1, rfl, e, e'⟩ | ⟨e, e'⟩
    · rcases two_side x1 with ⟨b, b1, rfl, k, k'⟩ | ⟨k, k'⟩
      · simp only [e, e', k, k', m0, n0, n1, n2, bd_s, i10, i00, jn_e, if_false, if_true]
        exact ⟨_, _, _, rfl, rfl, h⟩
      · simp only [e, e', k, k', n0, n1, n2, bd_s, i10, i00, jn_e, if_false, if_true]
        exact ⟨_, _, _, rfl, rfl, h⟩
    · simp only [e, e', n0, n1, n2, bd_s, i10, i00, jn_e, if_false, if_true]
      exact ⟨_, _, _, rfl, rfl, h⟩
end
section
/-! PURE: a hearing that is tried -/
theorem hP_bd {c jn cc jj : Nat} {P : Nat → Nat} (hP' : PgOK c jn P) (S : Nat → Nat) (hc : cc < c) (hj : jj < jn) : 1 ≤ (hP P S cc jj).1 ∧ (hP P S cc jj).1 ≤ 3 ∧ (hP P S cc jj).2.1 ≤ 9 ∧ (hP P S cc jj).2.2.1 ≤ 99 ∧ (hP P S cc jj).2.2.2 ≤ 99 := by
  have q0 := hP'.2.2.1 (2 * cc) (by omega)
  have q1 := hP'.2.2.1 (2 * cc + 1) (by omega)
  have q2 := hP'.2.2.2.2.1 jj hj
  unfold hP
  obtain ⟨g1, g2, g3, g4, g5⟩ := hRun_bd (bn (P (2 * cc))) (bn (P (2 * cc + 1))) (P (16 + 2 * cc)) (P (16 + (2 * cc + 1))) (P (40 + jj)) (P (43 + jj)) S 10 0 (P (8 + 2 * cc)) (P (8 + (2 * cc + 1))) (by omega) (by omega)
  exact ⟨g1, g2, by omega, by omega, by omega⟩
theorem M_len (F : Nat) {p cc : Nat} {Q : Nat → Nat} (v : St) (hp : p < 6) (hM : PgM p Q v) (hc : cc < 4) : pX7_lengthOf F (nI (68 * p)) (nI cc) v = some (nI (Q (8 + 2 * cc) + Q (8 + (2 * cc + 1))), v) := by
  unfold pX7_lengthOf
  simp (disch := omega) only [L8, L2, L1, pk_mul, nI_add, gd_i, cl]
  rw [show 68 * p + 8 + 2 * cc = 68 * p + (8 + 2 * cc) by omega, show 68 * p + (8 + 2 * cc) + 1 = 68 * p + (8 + (2 * cc + 1)) by omega, hM _ (by omega), hM _ (by omega), nI_add]
theorem menv0 {v : St} (h : RConst v) : MEnv 0 0 0 v := ⟨by omega, h.1, Or.inl rfl, h.2.1, by omega, by omega, h.2.2.1⟩
/-- what a trial leaves of the reference -/
theorem tries0 (F : Nat) (hF : 80 ≤ F) {c jn cc jj : Nat} {P : Nat → Nat} (v : St) (hc4 : c ≤ 4) (hj3 : jn ≤ 3) (hPg : PgOK c jn P) (hM : PgM 0 P v) (hc : RConst v) (h1 : cc < c) (h2 : jj < jn) :
    ∃ v', pX7_tries F 0 (nI cc) (nI jj) v = some (nI (hP P (stg P 0 (P 46)) cc jj).1, v') ∧ PgM 4 (lw P cc (hP P (stg P 0 (P 46)) cc jj).2.2.1 (hP P (stg P 0 (P 46)) cc jj).2.2.2) v' ∧ v'.1 18 = nI (hP P (stg P 0 (P 46)) cc jj).2.1 ∧ eqM v v' := by
  obtain ⟨v', k1, k2, k3, k4, k5, k6⟩ := M_tries F hF (p := 0) v (by omega) (by omega) hc4 hj3 hPg hM (menv0 hc) h1 h2
  rw [stm_0] at k1 k2 k3
  refine ⟨v', k1, k2, k3, fun i hi => k6 i (by omega), ⟨k4 0 (by omega), k4 1 (by omega), k4 7 (by omega), k4 8 (by omega), k4 15 (by omega), k4 17 (by omega), k4 21 (by omega), k4 22 (by omega)⟩, fun k hk => k5 k (by omega)⟩
theorem step_foretell {u v : St} (h : RR u v) (x0 x1 x2 : Int32) : ∃ (r : Int32) (u' v' : St), pX6_foretell LF x0 x1 x2 u = some (r, u') ∧ pX7_foretell LF x0 x1 x2 v = some (r, v') ∧ RR u' v' := by
  obtain ⟨c, jn, P, ⟨c1, c2, c3, hX, c5, c6, c7⟩, i0, i1, hs, ht, hw, htn, hsh, hc⟩ := id h
  obtain ⟨y1, y2, -⟩ := id hX
  unfold pX6_foretell pX7_foretell pX7_isHeard
  rcases two_case x0 c1 y1 c5 with ⟨a, a1, rfl, e, e'⟩ | ⟨e, e'⟩
  · rcases two_judge x1 c2 y2 c6 with ⟨b, b1, rfl, k, k'⟩ | ⟨k, k'⟩
    · rcases rng x2 (a0 := 0) (b0 := 2) (a1 := 0) (b1 := 2) 0 2 rfl rfl rfl rfl (by omega) (by omega) with ⟨d, d1, d2, rfl, q, q'⟩ | ⟨-, q, q'⟩
      · have hLF : 80 ≤ LF := by decide
        obtain ⟨w, g1, g2, g3, g4, g5⟩ := X_now LF (by omega) u c1 c2 c3 hX a1 b1
        obtain ⟨v', k1, k2, k3, k4⟩ := tries0 LF hLF v c1 c2 c3 c7 hc a1 b1
        obtain ⟨b1', b2', b3', b4', b5'⟩ := hP_bd c3 (stg P 0 (P 46)) a1 b1
        have hR : RR w v' := h.eq g5.x k4
        simp only [e, e', k, k', q, q', bd_s, i10, g1, k1]
        have hd : d = 0 ∨ d = 1 ∨ d = 2 := by omega
        rcases hd with rfl | rfl | rfl
        · simp only [a00, if_true]
          exact ⟨_, _, _, rfl, rfl, hR⟩
        · simp only [a10, a11, if_true, if_false, g4, k3]
          exact ⟨_, _, _, rfl, rfl, hR⟩
        · simp only [t20, t21, if_false]
          have m := M_len LF (p := 4) (cc := a) v' (by omega) k2 (by omega)
          rw [lw_0, lw_1] at m
          rw [L272, show nI 272 = nI (68 * 4) from rfl, m, bd_s, L0, L1, gd_i (by omega) (by omega), gd_i (by omega) (by omega), cl (by omega), cl (by omega), g2, g3, nI_add]
          exact ⟨_, _, _, rfl, rfl, hR⟩
      · simp only [e, e', k, k', q, q', bd_s, i10, i00]
        exact ⟨_, _, _, rfl, rfl, h⟩
    · simp only [e, e', k, k', bd_s, i10, i00]
      exact ⟨_, _, _, rfl, rfl, h⟩
  · simp only [e, e', bd_s, i00]
    exact ⟨_, _, _, rfl, rfl, h⟩
end
section
/-! PURE: a hearing for good -/
theorem CtX.frw {j c jn : Nat} {P : Nat → Nat} {u u' : St} (hj : 1 ≤ j) (hj4 : j < 4) (h : CtX j c jn P u) (e1 : ∀ k, 4 ≤ k → (k < 24 ∨ k = 29) → u'.1 k = u.1 k) (e2 : ∀ k, 13 ≤ k → (k < 52 ∨ k = 54 ∨ 60 ≤ k) → u'.2 k = u.2 k) : CtX j c jn P u' := by
  obtain ⟨h1, h2, h3, h4, h5, h6, h7, h8, h9⟩ := h
  refine ⟨by rw [e1 _ (by omega) (by omega)]; exact h1, by rw [e1 _ (by omega) (by omega)]; exact h2, by rw [e1 _ (by omega) (by omega)]; exact h3, by rw [e1 _ (by omega) (by omega)]; exact h4, ?_, ?_, ?_, ?_, ?_⟩
  · intro f hf; rw [e2 _ (by omega) (by omega), e2 _ (by omega) (by omega), e2 _ (by omega) (by omega)]; exact h5 f hf
  · intro f hf; rw [e2 _ (by omega) (by omega), e2 _ (by omega) (by omega), e2 _ (by omega) (by omega), e2 _ (by omega) (by omega)]; exact h6 f hf
  · intro f hf; rw [e2 _ (by omega) (by omega), e2 _ (by omega) (by omega)]; exact h7 f hf
  · intro f hf; rw [e2 _ (by omega) (by omega), e2 _ (by omega) (by omega)]; exact h8 f hf
  · intro f hf; rw [e2 _ (by omega) (by omega), e2 _ (by omega) (by omega)]; exact h9 f hf
theorem Rest.frw {c jn : Nat} {u v u' v' : St} (h : Rest c jn u v) (e1 : ∀ k, 4 ≤ k → (k < 24 ∨ k = 29) → u'.1 k = u.1 k) (e2 : ∀ k, 13 ≤ k → (k < 52 ∨ k = 54 ∨ 60 ≤ k) → u'.2 k = u.2 k) (f1 : ∀ k, (k = 7 ∨ k = 8 ∨ k = 15 ∨ k = 17 ∨ k = 21 ∨ k = 22) → v'.1 k = v.1 k) (f2 : ∀ k, (k = 1 ∨ (3 ≤ k ∧ k ≤ 5) ∨ k = 7 ∨ 9 ≤ k) → v'.2 k = v.2 k) (f3 : ∀ i, 68 ≤ i → i < 204 → v'.2 0 i = v.2 0 i) : Rest c jn u' v' := by
  obtain ⟨i0, i1, hs, ht, hw, htn, hsh, hc⟩ := h
  have img : ∀ k, k < 2 → RImg k c jn u v → RImg k c jn u' v' := fun k hk q => by
    rcases q with ⟨a, b⟩ | ⟨a, b, Q, q1, q2, q3⟩
    · exact Or.inl ⟨by rw [e2 66 (by omega) (by omega)]; exact a, by rw [f2 12 (by omega)]; exact b⟩
    · exact Or.inr ⟨by rw [e2 66 (by omega) (by omega)]; exact a, by rw [f2 12 (by omega)]; exact b, Q, q1, q2.frw (by omega) (by omega) e1 e2, fun i hi => by rw [f3 _ (by omega) (by omega)]; exact q3 i hi⟩
  refine ⟨img 0 (by omega) i0, img 1 (by omega) i1, ?_, ?_, ?_, ?_, ?_, ?_⟩
  · obtain ⟨n, a1, a2, a3, a4⟩ := hs
    refine ⟨n, a1, (e1 29 (by omega) (by omega)).trans a2, (f1 21 (by omega)).trans a3, fun i hi => ?_⟩
    rw [e2 60 (by omega) (by omega), e2 61 (by omega) (by omega), e2 62 (by omega) (by omega), f2 7 (by omega)]
    exact a4 i hi
  · obtain ⟨n, a1, a2, a3, a4⟩ := ht
    refine ⟨n, a1, (e1 17 (by omega) (by omega)).trans a2, (f1 7 (by omega)).trans a3, fun i hi => ?_⟩
    rw [e2 54 (by omega) (by omega), f2 3 (by omega)]
    exact a4 i hi
  · rw [e1 18 (by omega) (by omega), f1 8 (by omega)]; exact hw
  · rw [e1 16 (by omega) (by omega), f1 22 (by omega)]; exact htn
  · intro k hk
    have := hsh k hk
    unfold RSheet at this ⊢
    rw [e2 63 (by omega) (by omega), e2 64 (by omega) (by omega), e2 65 (by omega) (by omega), f2 9 (by omega), f2 10 (by omega), f2 11 (by omega)]
    exact this
  · obtain ⟨a1, a2, a3, a4, a5⟩ := hc
    exact ⟨(f1 15 (by omega)).trans a1, (f1 17 (by omega)).trans a2, (by rw [f2 1 (by omega)]; exact a3), (by rw [f2 4 (by omega)]; exact a4), by rw [f2 5 (by omega)]; exact a5⟩
theorem off_s (n : Nat) : off (n + 1) = nI n := by
  unfold off
  rw [if_neg (by omega), Nat.add_sub_cancel]
/-- the page after a hearing -/
def pgH (P : Nat → Nat) (a b r m l0 l1 : Nat) : Nat → Nat := fun j => if j = 24 + a then r else if j = 32 + a then m + 1 else if j = 36 + a then b + 1 else lw P a l0 l1 j
theorem pgH_o (P : Nat → Nat) {a b r m l0 l1 j : Nat} (h1 : j ≠ 24 + a) (h2 : j ≠ 32 + a) (h3 : j ≠ 36 + a) (h4 : j ≠ 8 + 2 * a) (h5 : j ≠ 8 + (2 * a + 1)) : pgH P a b r m l0 l1 j = P j := by
  unfold pgH
  rw [if_neg h1, if_neg h2, if_neg h3, lw_o P h4 h5]
theorem pgH_ok {c jn a b r m l0 l1 : Nat} {P : Nat → Nat} (h : PgOK c jn P) (hc4 : c ≤ 4) (hj : jn ≤ 3) (ha : a < c) (hb : b < jn) (hr : r ≤ 3) (hm : m ≤ 20) (h0 : l0 ≤ 99) (h1 : l1 ≤ 99) : PgOK c jn (pgH P a b r m l0 l1) := by
  obtain ⟨p1, p2, p3, p4, p5, p6, p7⟩ := h
  refine ⟨by rw [pgH_o P (by omega) (by omega) (by omega) (by omega) (by omega)]; exact p1, by rw [pgH_o P (by omega) (by omega) (by omega) (by omega) (by omega)]; exact p2, fun f hf => ?_, fun f hf => ?_, fun f hf => ?_, fun f hf => ?_, fun f hf => ?_⟩
  · rw [pgH_o P (j := f) (by omega) (by omega) (by omega) (by omega) (by omega), pgH_o P (j := 16 + f) (by omega) (by omega) (by omega) (by omega) (by omega)]
    obtain ⟨w0, w1, w2⟩ := p3 f hf
    refine ⟨w0, ?_, w2⟩
    unfold pgH lw
    rw [if_neg (by omega), if_neg (by omega), if_neg (by omega)]
    split
    · exact h0
    · split
      · exact h1
      · exact w1
  · rw [pgH_o P (j := 28 + f) (by omega) (by omega) (by omega) (by omega) (by omega)]
    obtain ⟨w0, w1, w2, w3⟩ := p4 f hf
    refine ⟨?_, w1, ?_, ?_⟩
    · unfold pgH lw
      split
      · exact hr
      · rw [if_neg (by omega), if_neg (by omega), if_neg (by omega), if_neg (by omega)]; exact w0
    · unfold pgH lw
      rw [if_neg (by omega)]
      split
      · omega
      · rw [if_neg (by omega), if_neg (by omega), if_neg (by omega)]; exact w2
    · unfold pgH lw
      rw [if_neg (by omega), if_neg (by omega)]
      split
      · omega
      · rw [if_neg (by omega), if_neg (by omega)]; exact w3
  · rw [pgH_o P (by omega) (by omega) (by omega) (by omega) (by omega), pgH_o P (by omega) (by omega) (by omega) (by omega) (by omega)]; exact p5 f hf
  · rw [pgH_o P (by omega) (by omega) (by omega) (by omega) (by omega)] at hf
    rw [pgH_o P (by omega) (by omega) (by omega) (by omega) (by omega), pgH_o P (by omega) (by omega) (by omega) (by omega) (by omega)]; exact p6 f hf
  · rw [pgH_o P (by omega) (by omega) (by omega) (by omega) (by omega)] at hf
    rw [pgH_o P (by omega) (by omega) (by omega) (by omega) (by omega), pgH_o P (by omega) (by omega) (by omega) (by omega) (by omega)]; exact p7 f hf
/-- the reference's page after judgesOn -/
theorem M_judges (F : Nat) (hF : 80 ≤ F) {p c jn aw mm ms cc jj : Nat} {P : Nat → Nat} (v : St) (hp : p < 6) (hc4 : c ≤ 4) (hj3 : jn ≤ 3) (hPg : PgOK c jn P) (hM : PgM p P v) (hE : MEnv aw mm ms v) (hc : cc < c) (hj : jj < jn) :
    ∃ v', pX7_judgesOn F (nI (68 * p)) (nI cc) (nI jj) v = some (nI (hP P (stm P aw mm ms (P 46)) cc jj).1, v') ∧ PgM p (pgH P cc jj (hP P (stm P aw mm ms (P 46)) cc jj).1 (hP P (stm P aw mm ms (P 46)) cc jj).2.1 (hP P (stm P aw mm ms (P 46)) cc jj).2.2.1 (hP P (stm P aw mm ms (P 46)) cc jj).2.2.2) v' ∧ (∀ k, k ≠ 18 → v'.1 k = v.1 k) ∧ (∀ k, k ≠ 0 → v'.2 k = v.2 k) ∧ (∀ i, (i < 68 * p ∨ 68 * p + 68 ≤ i) → v'.2 0 i = v.2 0 i) := by
  obtain ⟨w, g1, g2, g3, g4, g5, g6⟩ := M_hears F hF v hp hc4 hj3 hPg hM hE hc hj
  generalize hP P (stm P aw mm ms (P 46)) cc jj = H at *
  refine ⟨sta (sta (sta w 0 (nI (68 * p + 24 + cc)) (nI H.1)) 0 (nI (68 * p + 32 + cc)) (nI (H.2.1 + 1))) 0 (nI (68 * p + 36 + cc)) (nI (jj + 1)), ?_, fun k hk => ?_, fun k hk => g4 k hk, fun k hk => ?_, fun i hi => ?_⟩
  · unfold pX7_judgesOn
    rw [g1, bd_s]
    simp (disch := omega) only [L24, L32, L36, L1, nI_add, gd_i, vl_e, sta_1, g3]
  · rw [sta_h _ _ (by omega), sta_h _ _ (by omega), sta_h _ _ (by omega)]
    unfold pgH
    by_cases q1 : k = 24 + cc
    · rw [if_neg (by omega), if_neg (by omega), if_pos (by omega), if_pos q1]
    · by_cases q2 : k = 32 + cc
      · rw [if_neg (by omega), if_pos (by omega), if_neg q1, if_pos q2]
      · by_cases q3 : k = 36 + cc
        · rw [if_pos (by omega), if_neg q1, if_neg q2, if_pos q3]
        · rw [if_neg (by omega), if_neg (by omega), if_neg (by omega), if_neg q1, if_neg q2, if_neg q3]
          exact g2 k hk
  · rw [sta_m _ _ _ hk, sta_m _ _ _ hk, sta_m _ _ _ hk, g5 k hk]
  · rw [sta_h _ _ (by omega), if_neg (by omega), sta_h _ _ (by omega), if_neg (by omega), sta_h _ _ (by omega), if_neg (by omega), g6 i hi]
end
