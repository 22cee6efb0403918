/-! numbers -/
theorem j_rng (x : Int32) : -2147483648 ≤ x.toInt ∧ x.toInt < 2147483648 := ⟨Int32.le_toInt x, Int32.toInt_lt x⟩
theorem j_bmod {z : Int} (h1 : -2147483648 ≤ z) (h2 : z < 2147483648) : z.bmod (2 ^ 32) = z := by
  rw [Int.bmod_eq_of_le (by omega) (by omega)]
theorem i_add {a b : Int32} (h1 : -2147483648 ≤ a.toInt + b.toInt) (h2 : a.toInt + b.toInt < 2147483648) : (a + b).toInt = a.toInt + b.toInt := by
  rw [Int32.toInt_add, j_bmod h1 h2]
theorem i_sub {a b : Int32} (h1 : -2147483648 ≤ a.toInt - b.toInt) (h2 : a.toInt - b.toInt < 2147483648) : (a - b).toInt = a.toInt - b.toInt := by
  rw [Int32.toInt_sub, j_bmod h1 h2]
theorem i_mul {a b : Int32} (h1 : -2147483648 ≤ a.toInt * b.toInt) (h2 : a.toInt * b.toInt < 2147483648) : (a * b).toInt = a.toInt * b.toInt := by
  rw [Int32.toInt_mul, j_bmod h1 h2]
theorem i_addl {a b : Int32} {n : Int} (ha : a.toInt = n) (h1 : -2147483648 ≤ n + b.toInt) (h2 : n + b.toInt < 2147483648) : (a + b).toInt = n + b.toInt := by
  subst ha; exact i_add h1 h2
theorem i_addr {a b : Int32} {n : Int} (hb : b.toInt = n) (h1 : -2147483648 ≤ a.toInt + n) (h2 : a.toInt + n < 2147483648) : (a + b).toInt = a.toInt + n := by
  subst hb; exact i_add h1 h2
theorem i_subl {a b : Int32} {n : Int} (ha : a.toInt = n) (h1 : -2147483648 ≤ n - b.toInt) (h2 : n - b.toInt < 2147483648) : (a - b).toInt = n - b.toInt := by
  subst ha; exact i_sub h1 h2
theorem i_subr {a b : Int32} {n : Int} (hb : b.toInt = n) (h1 : -2147483648 ≤ a.toInt - n) (h2 : a.toInt - n < 2147483648) : (a - b).toInt = a.toInt - n := by
  subst hb; exact i_sub h1 h2
theorem i_mull {a b : Int32} {n : Int} (ha : a.toInt = n) (h1 : -2147483648 ≤ n * b.toInt) (h2 : n * b.toInt < 2147483648) : (a * b).toInt = n * b.toInt := by
  subst ha; exact i_mul h1 h2
theorem i_mulr {a b : Int32} {n : Int} (hb : b.toInt = n) (h1 : -2147483648 ≤ a.toInt * n) (h2 : a.toInt * n < 2147483648) : (a * b).toInt = a.toInt * n := by
  subst hb; exact i_mul h1 h2
theorem i_neg {a : Int32} (h : -2147483648 < a.toInt) : (-a).toInt = -a.toInt := by
  have := j_rng a
  rw [Int32.toInt_neg, j_bmod (by omega) (by omega)]
theorem i_lt {a b : Int32} (h : a < b) : a.toInt < b.toInt := Int32.lt_iff_toInt_lt.mp h
theorem i_nlt {a b : Int32} (h : ¬ a < b) : b.toInt ≤ a.toInt := Int.not_lt.mp (fun q => h (Int32.lt_iff_toInt_lt.mpr q))
theorem i_le {a b : Int32} (h : a ≤ b) : a.toInt ≤ b.toInt := Int32.le_iff_toInt_le.mp h
theorem i_nle {a b : Int32} (h : ¬ a ≤ b) : b.toInt < a.toInt := Int.not_le.mp (fun q => h (Int32.le_iff_toInt_le.mpr q))
theorem i_eq {a b : Int32} (h : a = b) : a.toInt = b.toInt := congrArg Int32.toInt h
theorem i_ne {a b : Int32} (h : ¬ a = b) : a.toInt ≠ b.toInt := fun q => h (Int32.toInt_inj.mp q)
theorem i_ne0 {a : Int32} (h : a.toInt ≠ 0) : ¬ a = 0 := fun q => h (by rw [q]; rfl)
theorem ix_of {x : Int32} {n : Nat} (h0 : 0 ≤ x.toInt) (h1 : x.toInt < n) : vp_in x n := vp_in_iff.mpr ⟨h0, h1⟩
theorem ix_cl {x : Int32} (h0 : 0 ≤ x.toInt) : (x.toNatClampNeg : Int) = x.toInt := by
  show ((x.toInt.toNat : Nat) : Int) = x.toInt
  omega
theorem i_min_le {x y : Int32} : (if y < x then y else x).toInt ≤ x.toInt := by
  split
  · rename_i h; have := i_lt h; omega
  · omega
theorem u16i (y : UInt16) : y.toUInt32.toInt32.toInt = (y.toNat : Int) := by
  have h := y.toNat_lt
  show (y.toUInt32.toBitVec).toInt = _
  rw [BitVec.toInt_eq_toNat_of_lt]
  · rfl
  · show 2 * y.toUInt32.toNat < 2 ^ 32
    rw [UInt16.toNat_toUInt32]; omega
theorem u32i {v : Int32} (h : 0 ≤ v.toInt) : (v.toUInt32.toNat : Int) = v.toInt := by
  have h2 : v.toBitVec.toInt = v.toInt := rfl
  have := BitVec.toInt_eq_toNat_cond v.toBitVec
  have h3 : v.toUInt32.toNat = v.toBitVec.toNat := rfl
  rw [h3]
  have h4 := v.toBitVec.isLt
  split at this <;> omega
theorem c_nar {v : Int32} (h : 0 ≤ v.toInt ∧ v.toInt < 65536) : narrow .char (.int v) = .int v := by
  show Value.int (v.toUInt32.toUInt16.toUInt32.toInt32) = .int v
  congr 1
  apply Int32.toInt_inj.mp
  rw [u16i]
  have h1 := u32i h.1
  have h2 : v.toUInt32.toUInt16.toNat = v.toUInt32.toNat % 65536 := UInt32.toNat_toUInt16 _
  omega
theorem z_nar {v : Int32} (h : v = 0 ∨ v = 1) : narrow .boolean (.int v) = .int v := by rcases h with rfl | rfl <;> rfl
theorem z_fit {v : Int32} (h : v = 0 ∨ v = 1) : fits .boolean (.int v) = true := by rcases h with rfl | rfl <;> rfl
theorem z_int {v : Int32} (h : v = 0 ∨ v = 1) : 0 ≤ v.toInt ∧ v.toInt ≤ 1 := by rcases h with rfl | rfl <;> exact ⟨by decide, by decide⟩
/-! a function in steps -/
def bnd {ρ σ γ : Type} (p : ρ × σ) (f : ρ → σ → γ) : γ := f p.1 p.2
def bns {σ γ : Type} (p : σ) (f : σ → γ) : γ := f p
theorem bnd_e {ρ σ γ : Type} {x : γ} {p : ρ × σ} {f : ρ → σ → γ} {r : ρ} {w : σ} (E : x = bnd p f) (h : (r, w) = p) : x = f r w := by subst h; exact E
theorem bns_e {σ γ : Type} {x : γ} {p w : σ} {f : σ → γ} (E : x = bns p f) (h : w = p) : x = f w := by subst h; exact E
/-! a state is a table of rows; a number that stands alone is its row at 0 -/
def st (w : Nat → Nat → Int32) (k j : Nat) (x : Int32) : Nat → Nat → Int32 := fun a => if a = k then upd (w k) j x else w a
theorem q_m2000 : ((-2000) : Int32).toInt = -2000 := by decide +kernel
theorem q_m1000 : ((-1000) : Int32).toInt = -1000 := by decide +kernel
theorem q_m9 : ((-9) : Int32).toInt = -9 := by decide +kernel
theorem q_m6 : ((-6) : Int32).toInt = -6 := by decide +kernel
theorem q_m5 : ((-5) : Int32).toInt = -5 := by decide +kernel
theorem q_m4 : ((-4) : Int32).toInt = -4 := by decide +kernel
theorem q_m3 : ((-3) : Int32).toInt = -3 := by decide +kernel
theorem q_m2 : ((-2) : Int32).toInt = -2 := by decide +kernel
theorem q_m1 : ((-1) : Int32).toInt = -1 := by decide +kernel
theorem q_0 : (0 : Int32).toInt = 0 := by decide +kernel
theorem q_1 : (1 : Int32).toInt = 1 := by decide +kernel
theorem q_2 : (2 : Int32).toInt = 2 := by decide +kernel
theorem q_3 : (3 : Int32).toInt = 3 := by decide +kernel
theorem q_4 : (4 : Int32).toInt = 4 := by decide +kernel
theorem q_5 : (5 : Int32).toInt = 5 := by decide +kernel
theorem q_6 : (6 : Int32).toInt = 6 := by decide +kernel
theorem q_7 : (7 : Int32).toInt = 7 := by decide +kernel
theorem q_8 : (8 : Int32).toInt = 8 := by decide +kernel
theorem q_9 : (9 : Int32).toInt = 9 := by decide +kernel
theorem q_10 : (10 : Int32).toInt = 10 := by decide +kernel
theorem q_11 : (11 : Int32).toInt = 11 := by decide +kernel
theorem q_12 : (12 : Int32).toInt = 12 := by decide +kernel
theorem q_14 : (14 : Int32).toInt = 14 := by decide +kernel
theorem q_15 : (15 : Int32).toInt = 15 := by decide +kernel
theorem q_16 : (16 : Int32).toInt = 16 := by decide +kernel
theorem q_20 : (20 : Int32).toInt = 20 := by decide +kernel
theorem q_21 : (21 : Int32).toInt = 21 := by decide +kernel
theorem q_30 : (30 : Int32).toInt = 30 := by decide +kernel
theorem q_40 : (40 : Int32).toInt = 40 := by decide +kernel
theorem q_43 : (43 : Int32).toInt = 43 := by decide +kernel
theorem q_45 : (45 : Int32).toInt = 45 := by decide +kernel
theorem q_48 : (48 : Int32).toInt = 48 := by decide +kernel
theorem q_50 : (50 : Int32).toInt = 50 := by decide +kernel
theorem q_57 : (57 : Int32).toInt = 57 := by decide +kernel
theorem q_59 : (59 : Int32).toInt = 59 := by decide +kernel
theorem q_60 : (60 : Int32).toInt = 60 := by decide +kernel
theorem q_90 : (90 : Int32).toInt = 90 := by decide +kernel
theorem q_96 : (96 : Int32).toInt = 96 := by decide +kernel
theorem q_98 : (98 : Int32).toInt = 98 := by decide +kernel
theorem q_99 : (99 : Int32).toInt = 99 := by decide +kernel
theorem q_100 : (100 : Int32).toInt = 100 := by decide +kernel
theorem q_101 : (101 : Int32).toInt = 101 := by decide +kernel
theorem q_102 : (102 : Int32).toInt = 102 := by decide +kernel
theorem q_103 : (103 : Int32).toInt = 103 := by decide +kernel
theorem q_104 : (104 : Int32).toInt = 104 := by decide +kernel
theorem q_105 : (105 : Int32).toInt = 105 := by decide +kernel
theorem q_106 : (106 : Int32).toInt = 106 := by decide +kernel
theorem q_107 : (107 : Int32).toInt = 107 := by decide +kernel
theorem q_108 : (108 : Int32).toInt = 108 := by decide +kernel
theorem q_109 : (109 : Int32).toInt = 109 := by decide +kernel
theorem q_110 : (110 : Int32).toInt = 110 := by decide +kernel
theorem q_111 : (111 : Int32).toInt = 111 := by decide +kernel
theorem q_112 : (112 : Int32).toInt = 112 := by decide +kernel
theorem q_113 : (113 : Int32).toInt = 113 := by decide +kernel
theorem q_114 : (114 : Int32).toInt = 114 := by decide +kernel
theorem q_115 : (115 : Int32).toInt = 115 := by decide +kernel
theorem q_116 : (116 : Int32).toInt = 116 := by decide +kernel
theorem q_117 : (117 : Int32).toInt = 117 := by decide +kernel
theorem q_118 : (118 : Int32).toInt = 118 := by decide +kernel
theorem q_119 : (119 : Int32).toInt = 119 := by decide +kernel
theorem q_121 : (121 : Int32).toInt = 121 := by decide +kernel
theorem q_125 : (125 : Int32).toInt = 125 := by decide +kernel
theorem q_255 : (255 : Int32).toInt = 255 := by decide +kernel
theorem q_256 : (256 : Int32).toInt = 256 := by decide +kernel
theorem q_999 : (999 : Int32).toInt = 999 := by decide +kernel
theorem q_9999 : (9999 : Int32).toInt = 9999 := by decide +kernel
theorem q_1664525 : (1664525 : Int32).toInt = 1664525 := by decide +kernel
theorem q_1000000000 : (1000000000 : Int32).toInt = 1000000000 := by decide +kernel
theorem q_1013904223 : (1013904223 : Int32).toInt = 1013904223 := by decide +kernel
theorem q_2147483647 : (2147483647 : Int32).toInt = 2147483647 := by decide +kernel
