/-! PURE: numbers, and how a pure term is read -/
def b01 (p : Prop) [Decidable p] : Int32 := if p then 1 else 0
theorem b01_0 {α : Type} {p : Prop} [Decidable p] (a b : α) : (if b01 p = 0 then a else b) = if p then b else a := by
  unfold b01
  by_cases h : p <;> simp [h]
theorem z01_b01 {p : Prop} [Decidable p] : z01 (b01 p) = true := by
  unfold b01 z01
  by_cases h : p <;> simp [h]
theorem b01_t {p : Prop} [Decidable p] (h : p) : b01 p = 1 := if_pos h
theorem b01_f {p : Prop} [Decidable p] (h : ¬ p) : b01 p = 0 := if_neg h
theorem gd_t {α : Type} {b : Bool} (o : Option α) (h : b = true) : gd b o = o := if_pos h
theorem bd_s {α β : Type} (r : α) (u : St) (k : α → St → Option β) : bd (some (r, u)) k = k r u := rfl
theorem vl_e {α β : Type} (x : α) (k : α → β) : vl x k = k x := rfl
theorem jn_e {α β : Type} (x : α) (k : α → β) : jn x k = k x := rfl
theorem lp0_s {ρ : Type} (b : (St → Option ρ) → St → Option ρ) (n : Nat) (u : St) : lp0 b (n + 1) u = b (lp0 b n) u := rfl
theorem lq1_s {A ρ : Type} (b : (A → St → Option ρ) → A → St → Option ρ) (n : Nat) (x : A) (u : St) : lq1 b (n + 1) x u = b (lq1 b n) x u := rfl
theorem lq2_s {A B ρ : Type} (b : (A → B → St → Option ρ) → A → B → St → Option ρ) (n : Nat) (x : A) (y : B) (u : St) : lq2 b (n + 1) x y u = b (lq2 b n) x y u := rfl
theorem lq3_s {A B C ρ : Type} (b : (A → B → C → St → Option ρ) → A → B → C → St → Option ρ) (n : Nat) (x : A) (y : B) (z : C) (u : St) : lq3 b (n + 1) x y z u = b (lq3 b n) x y z u := rfl
theorem lq4_s {A B C D ρ : Type} (b : (A → B → C → D → St → Option ρ) → A → B → C → D → St → Option ρ) (n : Nat) (x : A) (y : B) (z : C) (w : D) (u : St) : lq4 b (n + 1) x y z w u = b (lq4 b n) x y z w u := rfl
theorem inb_nI {n N : Nat} (h : n < N) (hN : N < 2147483648) : inb (nI n) N = true := by
  unfold inb
  rw [nI_toInt (by omega)]
  simp
  omega
theorem nz_nI {n : Nat} (h : 0 < n) (hn : n < 2147483648) : nz (nI n) = true := by
  unfold nz
  simp
  exact nI_ne0 h (by omega)
/-- an int in bounds is a small natural -/
theorem nI_in2 {x : Int32} {lo hi : Nat} (h : (lo : Int) ≤ x.toInt ∧ x.toInt ≤ (hi : Int)) (hh : hi < 2147483648) : ∃ n : Nat, lo ≤ n ∧ n ≤ hi ∧ x = nI n := by
  refine ⟨x.toInt.toNat, by omega, by omega, ?_⟩
  apply Int32.toInt_inj.mp
  rw [nI_toInt (by omega)]
  omega
theorem tI64 (x : Int32) : (Int32.toInt64 x).toInt = x.toInt := Int32.toInt_toInt64 x
theorem tI {n : Nat} (h : n < 2147483648) : (nI n).toInt = (n : Int) := nI_toInt (by omega)
theorem cl {n : Nat} (h : n < 2147483648) : (nI n).toNatClampNeg = n := nI_clamp (by omega)
theorem ltI {a b : Nat} (ha : a < 2147483648) (hb : b < 2147483648) : nI a < nI b ↔ a < b := nI_ltI (by omega) (by omega)
theorem leI {a b : Nat} (ha : a < 2147483648) (hb : b < 2147483648) : nI a ≤ nI b ↔ a ≤ b := nI_leI (by omega) (by omega)
theorem eqI {a b : Nat} (ha : a < 2147483648) (hb : b < 2147483648) : nI a = nI b ↔ a = b := nI_eq (by omega) (by omega)
theorem subI {a b : Nat} (h : b ≤ a) : nI a - nI b = nI (a - b) := pk_sub h
theorem m4_lt {n : Nat} (h : n < 2147483648) : ¬ nI n < (-4) ∧ ¬ nI n = (-4) ∧ (-4 : Int32) < nI n := by
  have e : (nI n).toInt = n := tI h
  have e4 : (-4 : Int32).toInt = -4 := by decide
  refine ⟨?_, ?_, ?_⟩
  · rw [Int32.lt_iff_toInt_lt, e, e4]; omega
  · intro q; have := congrArg Int32.toInt q; rw [e, e4] at this; omega
  · rw [Int32.lt_iff_toInt_lt, e, e4]; omega
/-! states read back -/
theorem stf_1 (u : St) (k : Nat) (v : Int32) (j : Nat) : (stf u k v).1 j = if j = k then v else u.1 j := rfl
theorem stf_2 (u : St) (k : Nat) (v : Int32) : (stf u k v).2 = u.2 := rfl
theorem stw_1 (u : St) (k : Nat) (f : Nat → Int32) : (stw u k f).1 = u.1 := rfl
theorem stw_2 (u : St) (k : Nat) (f : Nat → Int32) (j : Nat) : (stw u k f).2 j = if j = k then f else u.2 j := rfl
theorem sta_1 (u : St) (k : Nat) (i v : Int32) : (sta u k i v).1 = u.1 := rfl
theorem sta_2 (u : St) (k : Nat) (i v : Int32) (j : Nat) : (sta u k i v).2 j = if j = k then upd (u.2 k) i.toNatClampNeg v else u.2 j := rfl
theorem stz_1 (u : St) (k : Nat) (i v : Int32) : (stz u k i v).1 = u.1 := rfl
theorem stz_2 (u : St) (k : Nat) (i v : Int32) (j : Nat) : (stz u k i v).2 j = if j = k then upd (u.2 k) i.toNatClampNeg (vp_nar .boolean v) else u.2 j := rfl
theorem upd_s (f : Nat → Int32) (k : Nat) (x : Int32) : upd f k x k = x := if_pos rfl
theorem upd_n {f : Nat → Int32} {k j : Nat} {x : Int32} (h : j ≠ k) : upd f k x j = f j := if_neg h
/-! the smallest of the class's own, and of the reference's -/
theorem lg_lt (x y : Int64) : (lg_cmp x y < 0) ↔ x.toInt < y.toInt := by
  unfold lg_cmp
  by_cases h1 : y < x
  · have := Int64.lt_iff_toInt_lt.mp h1
    rw [if_pos h1]
    constructor
    · intro h; exact absurd h (by decide)
    · intro h; omega
  · have h1' : ¬ y.toInt < x.toInt := fun q => h1 (Int64.lt_iff_toInt_lt.mpr q)
    rw [if_neg h1]
    by_cases h2 : x = y
    · subst h2; simp
    · rw [if_neg h2]
      constructor
      · intro _
        have : x.toInt ≠ y.toInt := fun q => h2 (Int64.toInt_inj.mp q)
        omega
      · intro _; decide
theorem lg_gt (x y : Int64) : (0 < lg_cmp x y) ↔ y.toInt < x.toInt := by
  unfold lg_cmp
  by_cases h1 : y < x
  · have := Int64.lt_iff_toInt_lt.mp h1
    rw [if_pos h1]
    constructor
    · intro _; exact this
    · intro _; decide
  · have h1' : ¬ y.toInt < x.toInt := fun q => h1 (Int64.lt_iff_toInt_lt.mpr q)
    rw [if_neg h1]
    by_cases h2 : x = y
    · subst h2; simp
    · rw [if_neg h2]
      constructor
      · intro h; exact absurd h (by decide)
      · intro h; exact absurd h h1'
theorem X_isIn (F : Nat) (v : Int64) (lo hi : Int32) (u : St) : pX6_isIn F v lo hi u = some (b01 (lo.toInt ≤ v.toInt ∧ v.toInt ≤ hi.toInt), u) := by
  unfold pX6_isIn b01
  simp only [lg_lt, lg_gt, tI64]
  by_cases h1 : v.toInt < lo.toInt
  · rw [if_pos h1, if_neg (by omega)]
  · rw [if_neg h1]
    by_cases h2 : hi.toInt < v.toInt
    · rw [if_pos h2, if_neg (by omega)]
    · rw [if_neg h2, if_pos (by omega)]
theorem M_in (F : Nat) (v lo hi : Int64) (u : St) : pX7_in F v lo hi u = some (b01 (lo.toInt ≤ v.toInt ∧ v.toInt ≤ hi.toInt), u) := by
  unfold pX7_in b01
  simp only [lg_lt, lg_gt]
  by_cases h1 : v.toInt < lo.toInt
  · rw [if_pos h1, if_neg (by omega)]
  · rw [if_neg h1]
    by_cases h2 : hi.toInt < v.toInt
    · rw [if_pos h2, if_neg (by omega)]
    · rw [if_neg h2, if_pos (by omega)]
/-! literals -/
theorem L0 : (0 : Int32) = nI 0 := by decide +kernel
theorem L1 : (1 : Int32) = nI 1 := by decide +kernel
theorem L2 : (2 : Int32) = nI 2 := by decide +kernel
theorem L3 : (3 : Int32) = nI 3 := by decide +kernel
theorem L4 : (4 : Int32) = nI 4 := by decide +kernel
theorem L5 : (5 : Int32) = nI 5 := by decide +kernel
theorem L6 : (6 : Int32) = nI 6 := by decide +kernel
theorem L7 : (7 : Int32) = nI 7 := by decide +kernel
theorem L8 : (8 : Int32) = nI 8 := by decide +kernel
theorem L9 : (9 : Int32) = nI 9 := by decide +kernel
theorem L10 : (10 : Int32) = nI 10 := by decide +kernel
theorem L11 : (11 : Int32) = nI 11 := by decide +kernel
theorem L12 : (12 : Int32) = nI 12 := by decide +kernel
theorem L13 : (13 : Int32) = nI 13 := by decide +kernel
theorem L14 : (14 : Int32) = nI 14 := by decide +kernel
theorem L15 : (15 : Int32) = nI 15 := by decide +kernel
theorem L16 : (16 : Int32) = nI 16 := by decide +kernel
theorem L17 : (17 : Int32) = nI 17 := by decide +kernel
theorem L18 : (18 : Int32) = nI 18 := by decide +kernel
theorem L19 : (19 : Int32) = nI 19 := by decide +kernel
theorem L20 : (20 : Int32) = nI 20 := by decide +kernel
theorem L21 : (21 : Int32) = nI 21 := by decide +kernel
theorem L22 : (22 : Int32) = nI 22 := by decide +kernel
theorem L23 : (23 : Int32) = nI 23 := by decide +kernel
theorem L24 : (24 : Int32) = nI 24 := by decide +kernel
theorem L25 : (25 : Int32) = nI 25 := by decide +kernel
theorem L26 : (26 : Int32) = nI 26 := by decide +kernel
theorem L27 : (27 : Int32) = nI 27 := by decide +kernel
theorem L28 : (28 : Int32) = nI 28 := by decide +kernel
theorem L29 : (29 : Int32) = nI 29 := by decide +kernel
theorem L30 : (30 : Int32) = nI 30 := by decide +kernel
theorem L31 : (31 : Int32) = nI 31 := by decide +kernel
theorem L32 : (32 : Int32) = nI 32 := by decide +kernel
theorem L33 : (33 : Int32) = nI 33 := by decide +kernel
theorem L34 : (34 : Int32) = nI 34 := by decide +kernel
theorem L35 : (35 : Int32) = nI 35 := by decide +kernel
theorem L36 : (36 : Int32) = nI 36 := by decide +kernel
theorem L37 : (37 : Int32) = nI 37 := by decide +kernel
theorem L38 : (38 : Int32) = nI 38 := by decide +kernel
theorem L39 : (39 : Int32) = nI 39 := by decide +kernel
theorem L40 : (40 : Int32) = nI 40 := by decide +kernel
theorem L41 : (41 : Int32) = nI 41 := by decide +kernel
theorem L42 : (42 : Int32) = nI 42 := by decide +kernel
theorem L43 : (43 : Int32) = nI 43 := by decide +kernel
theorem L44 : (44 : Int32) = nI 44 := by decide +kernel
theorem L45 : (45 : Int32) = nI 45 := by decide +kernel
theorem L46 : (46 : Int32) = nI 46 := by decide +kernel
theorem L47 : (47 : Int32) = nI 47 := by decide +kernel
theorem L48 : (48 : Int32) = nI 48 := by decide +kernel
theorem L49 : (49 : Int32) = nI 49 := by decide +kernel
theorem L50 : (50 : Int32) = nI 50 := by decide +kernel
theorem L51 : (51 : Int32) = nI 51 := by decide +kernel
theorem L52 : (52 : Int32) = nI 52 := by decide +kernel
theorem L53 : (53 : Int32) = nI 53 := by decide +kernel
theorem L54 : (54 : Int32) = nI 54 := by decide +kernel
theorem L55 : (55 : Int32) = nI 55 := by decide +kernel
theorem L56 : (56 : Int32) = nI 56 := by decide +kernel
theorem L57 : (57 : Int32) = nI 57 := by decide +kernel
theorem L58 : (58 : Int32) = nI 58 := by decide +kernel
theorem L59 : (59 : Int32) = nI 59 := by decide +kernel
theorem L60 : (60 : Int32) = nI 60 := by decide +kernel
theorem L61 : (61 : Int32) = nI 61 := by decide +kernel
theorem L62 : (62 : Int32) = nI 62 := by decide +kernel
theorem L63 : (63 : Int32) = nI 63 := by decide +kernel
theorem L64 : (64 : Int32) = nI 64 := by decide +kernel
theorem L65 : (65 : Int32) = nI 65 := by decide +kernel
theorem L66 : (66 : Int32) = nI 66 := by decide +kernel
theorem L67 : (67 : Int32) = nI 67 := by decide +kernel
theorem L68 : (68 : Int32) = nI 68 := by decide +kernel
theorem L69 : (69 : Int32) = nI 69 := by decide +kernel
theorem L70 : (70 : Int32) = nI 70 := by decide +kernel
theorem L71 : (71 : Int32) = nI 71 := by decide +kernel
theorem L72 : (72 : Int32) = nI 72 := by decide +kernel
theorem L73 : (73 : Int32) = nI 73 := by decide +kernel
theorem L74 : (74 : Int32) = nI 74 := by decide +kernel
theorem L75 : (75 : Int32) = nI 75 := by decide +kernel
theorem L76 : (76 : Int32) = nI 76 := by decide +kernel
theorem L77 : (77 : Int32) = nI 77 := by decide +kernel
theorem L78 : (78 : Int32) = nI 78 := by decide +kernel
theorem L79 : (79 : Int32) = nI 79 := by decide +kernel
theorem L80 : (80 : Int32) = nI 80 := by decide +kernel
theorem L81 : (81 : Int32) = nI 81 := by decide +kernel
theorem L82 : (82 : Int32) = nI 82 := by decide +kernel
theorem L83 : (83 : Int32) = nI 83 := by decide +kernel
theorem L84 : (84 : Int32) = nI 84 := by decide +kernel
theorem L85 : (85 : Int32) = nI 85 := by decide +kernel
theorem L86 : (86 : Int32) = nI 86 := by decide +kernel
theorem L87 : (87 : Int32) = nI 87 := by decide +kernel
theorem L88 : (88 : Int32) = nI 88 := by decide +kernel
theorem L89 : (89 : Int32) = nI 89 := by decide +kernel
theorem L90 : (90 : Int32) = nI 90 := by decide +kernel
theorem L91 : (91 : Int32) = nI 91 := by decide +kernel
theorem L92 : (92 : Int32) = nI 92 := by decide +kernel
theorem L93 : (93 : Int32) = nI 93 := by decide +kernel
theorem L94 : (94 : Int32) = nI 94 := by decide +kernel
theorem L95 : (95 : Int32) = nI 95 := by decide +kernel
theorem L96 : (96 : Int32) = nI 96 := by decide +kernel
theorem L97 : (97 : Int32) = nI 97 := by decide +kernel
theorem L98 : (98 : Int32) = nI 98 := by decide +kernel
theorem L99 : (99 : Int32) = nI 99 := by decide +kernel
theorem L100 : (100 : Int32) = nI 100 := by decide +kernel
theorem L103 : (103 : Int32) = nI 103 := by decide +kernel
theorem L127 : (127 : Int32) = nI 127 := by decide +kernel
theorem L128 : (128 : Int32) = nI 128 := by decide +kernel
theorem L136 : (136 : Int32) = nI 136 := by decide +kernel
theorem L159 : (159 : Int32) = nI 159 := by decide +kernel
theorem L160 : (160 : Int32) = nI 160 := by decide +kernel
theorem L204 : (204 : Int32) = nI 204 := by decide +kernel
theorem L255 : (255 : Int32) = nI 255 := by decide +kernel
theorem L256 : (256 : Int32) = nI 256 := by decide +kernel
theorem L272 : (272 : Int32) = nI 272 := by decide +kernel
theorem L340 : (340 : Int32) = nI 340 := by decide +kernel
theorem L408 : (408 : Int32) = nI 408 := by decide +kernel
theorem gd_true {α : Type} (o : Option α) : gd true o = o := rfl
theorem b01_n0 {α : Type} {p : Prop} [Decidable p] (a b : α) : (if b01 p = nI 0 then a else b) = if p then b else a := b01_0 a b
theorem fb_bmod0 {z : Int} (h1 : -2147483648 ≤ z) (h2 : z < 2147483648) : z.bmod (2 ^ 32) = z := by
  rw [Int.bmod_eq_of_le (by omega) (by omega)]
theorem ifle {α : Type} {a b : Nat} (ha : a < 2147483648) (hb : b < 2147483648) (x y : α) : (if nI a ≤ nI b then x else y) = if a ≤ b then x else y := by
  by_cases h : a ≤ b
  · rw [if_pos h, if_pos ((leI ha hb).mpr h)]
  · rw [if_neg h, if_neg (fun q => h ((leI ha hb).mp q))]
theorem iflt {α : Type} {a b : Nat} (ha : a < 2147483648) (hb : b < 2147483648) (x y : α) : (if nI a < nI b then x else y) = if a < b then x else y := by
  by_cases h : a < b
  · rw [if_pos h, if_pos ((ltI ha hb).mpr h)]
  · rw [if_neg h, if_neg (fun q => h ((ltI ha hb).mp q))]
theorem ifeq {α : Type} {a b : Nat} (ha : a < 2147483648) (hb : b < 2147483648) (x y : α) : (if nI a = nI b then x else y) = if a = b then x else y := by
  by_cases h : a = b
  · rw [if_pos h, if_pos ((eqI ha hb).mpr h)]
  · rw [if_neg h, if_neg (fun q => h ((eqI ha hb).mp q))]
