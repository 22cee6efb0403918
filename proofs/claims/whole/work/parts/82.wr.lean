/-! a wagon of the class and the reference's: n layers, c pieces -/
def wt (w : Nat → Nat → Int32) (k : Nat) : Int32 := sX0_weight (w 2 k) (w 3 k)
def bdg (kd s b : Int32) : Int32 := sX7_atLeast0 (sX0_binding kd s - 4 * b)
def rg (x : Int32) (lo hi : Int) : Prop := lo ≤ x.toInt ∧ x.toInt ≤ hi
def LR (a w : Nat → Nat → Int32) (n j : Nat) : Prop := (a 0 j = w 2 j ∧ rg (w 2 j) 0 6) ∧ (a 1 j = w 3 j ∧ rg (w 3 j) 1 20) ∧ (a 2 j = w 4 j ∧ rg (w 4 j) 0 9) ∧ (a 3 j = w 5 j ∧ rg (w 5 j) (-5) 5) ∧ (a 4 j = bdg (w 2 j) (w 3 j) (w 6 j) ∧ rg (w 6 j) 0 20) ∧ a 5 j = sm (wt w) j (n - j)
def YR (a w : Nat → Nat → Int32) (c : Nat → Nat) (i : Nat) : Prop := c i ≤ 6 ∧ a (13 + 4 * i) 0 = ii (c i) ∧ w 10 i = ii (c i) ∧ ∀ j, j < c i → (a (10 + 4 * i) j = w 7 (6 * i + j) ∧ rg (w 7 (6 * i + j)) 0 5) ∧ (a (11 + 4 * i) j = w 8 (6 * i + j) ∧ rg (w 8 (6 * i + j)) 0 20) ∧ (a (12 + 4 * i) j = w 9 (6 * i + j) ∧ rg (w 9 (6 * i + j)) 1 9)
def WR (n : Nat) (c : Nat → Nat) (a w : Nat → Nat → Int32) : Prop := n ≤ 12 ∧ a 6 0 = ii n ∧ w 11 0 = ii n ∧ (∀ j, j < n → LR a w n j) ∧ (∀ i, i < 2 → YR a w c i) ∧ (∀ j, j < 4 → a 7 j = w 1 j) ∧ rg (w 1 0) 0 12 ∧ rg (w 1 1) 1 9 ∧ rg (w 1 2) 1 9 ∧ rg (w 1 3) 0 999
theorem WR.n {n : Nat} {c : Nat → Nat} {a w : Nat → Nat → Int32} (h : WR n c a w) : n ≤ 12 := h.1
theorem WR.a6 {n : Nat} {c : Nat → Nat} {a w : Nat → Nat → Int32} (h : WR n c a w) : a 6 0 = ii n := h.2.1
theorem WR.w11 {n : Nat} {c : Nat → Nat} {a w : Nat → Nat → Int32} (h : WR n c a w) : w 11 0 = ii n := h.2.2.1
theorem WR.L {n : Nat} {c : Nat → Nat} {a w : Nat → Nat → Int32} (h : WR n c a w) {j : Nat} (hj : j < n) : LR a w n j := h.2.2.2.1 j hj
theorem WR.Y {n : Nat} {c : Nat → Nat} {a w : Nat → Nat → Int32} (h : WR n c a w) {i : Nat} (hi : i < 2) : YR a w c i := h.2.2.2.2.1 i hi
theorem WR.S {n : Nat} {c : Nat → Nat} {a w : Nat → Nat → Int32} (h : WR n c a w) {j : Nat} (hj : j < 4) : a 7 j = w 1 j := h.2.2.2.2.2.1 j hj
theorem WR.s0 {n : Nat} {c : Nat → Nat} {a w : Nat → Nat → Int32} (h : WR n c a w) : rg (w 1 0) 0 12 := h.2.2.2.2.2.2.1
theorem WR.s1 {n : Nat} {c : Nat → Nat} {a w : Nat → Nat → Int32} (h : WR n c a w) : rg (w 1 1) 1 9 := h.2.2.2.2.2.2.2.1
theorem WR.s2 {n : Nat} {c : Nat → Nat} {a w : Nat → Nat → Int32} (h : WR n c a w) : rg (w 1 2) 1 9 := h.2.2.2.2.2.2.2.2.1
theorem WR.s3 {n : Nat} {c : Nat → Nat} {a w : Nat → Nat → Int32} (h : WR n c a w) : rg (w 1 3) 0 999 := h.2.2.2.2.2.2.2.2.2
theorem al_max (e : Int32) : sX7_atLeast0 e = if 0 < e then e else 0 := by
  unfold sX7_atLeast0
  by_cases c : (0 : Int32) < e
  · rw [if_pos c, if_pos (Int32.le_iff_toInt_le.mpr (by have := i_lt c; omega))]
  · rw [if_neg c]
    by_cases d : (0 : Int32) ≤ e
    · rw [if_pos d]
      apply Int32.toInt_inj.mp
      have := i_nlt c
      have := i_le d
      omega
    · rw [if_neg d]
theorem e_weight {w : Nat → Nat → Int32} {k : Nat} (hk : k < 1000) : sX7_weightOf w (ii k) = wt w k := by
  unfold sX7_weightOf wt sX0_weight
  rw [ii_n (by omega)]
  have n35 : ¬ (3 : Int32) = 5 := by decide
  have n65 : ¬ (6 : Int32) = 5 := by decide
  have n63 : ¬ (6 : Int32) = 3 := by decide
  have n53 : ¬ (5 : Int32) = 3 := by decide
  by_cases h3 : w 2 k = 3
  · rw [h3, if_pos rfl, if_neg n35, if_pos rfl, Int32.add_zero]
  · rw [if_neg h3, if_neg h3]
    by_cases h6 : w 2 k = 6
    · rw [h6, if_pos rfl, if_neg n65, if_neg n65, if_pos rfl, Int32.add_zero]
    · rw [if_neg h6]
      by_cases h5 : w 2 k = 5
      · rw [if_pos h5, if_pos h5]
      · rw [if_neg h5, if_neg h5, if_neg h6, Int32.add_zero]
theorem e_plain {w : Nat → Nat → Int32} {k : Nat} (hk : k < 1000) : sX7_plainBinding w (ii k) = sX0_binding (w 2 k) (w 3 k) := by
  unfold sX7_plainBinding sX0_binding
  rw [ii_n (by omega), al_max]
theorem e_binding {w : Nat → Nat → Int32} {k : Nat} (hk : k < 1000) : sX7_bindingOf w (ii k) = bdg (w 2 k) (w 3 k) (w 6 k) := by
  unfold sX7_bindingOf bdg
  rw [e_plain hk, ii_n (by omega)]
theorem e_thick {w : Nat → Nat → Int32} {k : Nat} (hk : k < 1000) : sX7_thickOf w (ii k) = sX0_thickness (w 2 k) := by
  unfold sX7_thickOf sX0_thickness
  rw [ii_n (by omega)]
theorem e_load {n : Nat} {w : Nat → Nat → Int32} (h11 : w 11 0 = ii n) (hn : n ≤ 12) {k : Nat} (hk : k ≤ n) : sX7_loadOf w (ii k) = sm (wt w) k (n - k) := by
  unfold sX7_loadOf
  have hF : ∀ m x k, k < 1000 → sX7_loadOf_4 w (m + 1) x (ii k) = if n ≤ k then x else sX7_loadOf_4 w m (x + wt w k) (ii (k + 1)) := fun m x k hk => by
    rw [sX7_loadOf_4, h11, ii_s, e_weight hk]
    by_cases c : n ≤ k
    · rw [if_pos c, if_pos ((ii_le (by omega) (by omega)).mpr c)]
    · rw [if_neg c, if_neg (fun e => c ((ii_le (by omega) (by omega)).mp e))]
  rw [smL hF (by omega) 13 0 k hk (by omega), Int32.zero_add]
theorem ifle {α : Type} {n k : Nat} (hn : n < 2147483648) (hk : k < 2147483648) {x y : α} : (if ii n ≤ ii k then x else y) = if n ≤ k then x else y := by
  by_cases c : n ≤ k
  · rw [if_pos c, if_pos ((ii_le hn hk).mpr c)]
  · rw [if_neg c, if_neg (fun e => c ((ii_le hn hk).mp e))]
theorem e_height4 {n : Nat} {a : Nat → Nat → Int32} (h6 : a 6 0 = ii n) (hn : n ≤ 12) : sX4_height a = sm (fun k => sX0_thickness (a 0 k)) 0 n := by
  unfold sX4_height
  have hF : ∀ m x k, k < 1000 → sX4_height_4 a (m + 1) x (ii k) = if n ≤ k then x else sX4_height_4 a m (x + sX0_thickness (a 0 k)) (ii (k + 1)) := fun m x k hk => by
    rw [sX4_height_4, h6, ii_s, ii_n (by omega), ifle (by omega) (by omega)]
  have e := smL hF (by omega) 13 0 0 (by omega) (by omega)
  rw [Int32.zero_add] at e
  exact e
theorem e_height7 {n : Nat} {w : Nat → Nat → Int32} (h11 : w 11 0 = ii n) (hn : n ≤ 12) : sX7_heightNow w = sm (fun k => sX0_thickness (w 2 k)) 0 n := by
  unfold sX7_heightNow
  have hF : ∀ m x k, k < 1000 → sX7_heightNow_4 w (m + 1) x (ii k) = if n ≤ k then x else sX7_heightNow_4 w m (x + sX0_thickness (w 2 k)) (ii (k + 1)) := fun m x k hk => by
    rw [sX7_heightNow_4, h11, ii_s, e_thick hk, ifle (by omega) (by omega)]
  have e := smL hF (by omega) 13 0 0 (by omega) (by omega)
  rw [Int32.zero_add] at e
  exact e
theorem WR.height {n : Nat} {c : Nat → Nat} {a w : Nat → Nat → Int32} (h : WR n c a w) : sX4_height a = sX7_heightNow w := by
  rw [e_height4 h.a6 h.n, e_height7 h.w11 h.n]
  exact sm_cong n (fun j _ hj => by rw [(h.L (by omega)).1.1])
theorem e_sheaves4 {n : Nat} {a : Nat → Nat → Int32} (h6 : a 6 0 = ii n) (hn : n ≤ 12) : sX4_allSheaves a = sm (a 1) 0 n := by
  unfold sX4_allSheaves
  have hF : ∀ m x k, k < 1000 → sX4_allSheaves_4 a (m + 1) x (ii k) = if n ≤ k then x else sX4_allSheaves_4 a m (x + a 1 k) (ii (k + 1)) := fun m x k hk => by
    rw [sX4_allSheaves_4, h6, ii_s, ii_n (by omega), ifle (by omega) (by omega)]
  have e := smL hF (by omega) 13 0 0 (by omega) (by omega)
  rw [Int32.zero_add] at e
  exact e
theorem e_sheaves7 {n : Nat} {w : Nat → Nat → Int32} (h11 : w 11 0 = ii n) (hn : n ≤ 12) : sX7_allSheaves w = sm (w 3) 0 n := by
  unfold sX7_allSheaves
  have hF : ∀ m x k, k < 1000 → sX7_allSheaves_4 w (m + 1) x (ii k) = if n ≤ k then x else sX7_allSheaves_4 w m (x + w 3 k) (ii (k + 1)) := fun m x k hk => by
    rw [sX7_allSheaves_4, h11, ii_s, ii_n (by omega), ifle (by omega) (by omega)]
  have e := smL hF (by omega) 13 0 0 (by omega) (by omega)
  rw [Int32.zero_add] at e
  exact e
theorem WR.sheaves {n : Nat} {c : Nat → Nat} {a w : Nat → Nat → Int32} (h : WR n c a w) : sX4_allSheaves a = sX7_allSheaves w := by
  rw [e_sheaves4 h.a6 h.n, e_sheaves7 h.w11 h.n]
  exact sm_cong n (fun j _ hj => (h.L (by omega)).2.1.1)
theorem WR.sheaves_b {n : Nat} {c : Nat → Nat} {a w : Nat → Nat → Int32} (h : WR n c a w) : (n : Int) ≤ (sX7_allSheaves w).toInt ∧ (sX7_allSheaves w).toInt ≤ n * 20 := by
  rw [e_sheaves7 h.w11 h.n]
  have := sm_bnd (f := w 3) (k := 0) (lo := 1) (hi := 20) (by omega) (by omega) (by omega) n (by have := h.n; omega) (fun j _ hj => (h.L (by omega)).2.1.2)
  omega
/-! the layer farthest out -/
theorem e_far {n : Nat} {a w : Nat → Nat → Int32} (h6 : a 6 0 = ii n) (h11 : w 11 0 = ii n) (hn : n ≤ 12) (he : ∀ j, j < n → a 2 j = w 4 j) : ∀ m m' x y, x < n → y ≤ n → n - y < m → n - y < m' → ∃ z, z < n ∧ sX4_layerFarthestOut_4 a m (ii x) (ii y) = ii z ∧ sX7_farthest_4 w m' (ii x) (ii y) = ii z := by
  intro m
  induction m with
  | zero => intro m' x y _ _ h; omega
  | succ m ih =>
    intro m' x y hx hy hm hm'
    cases m' with
    | zero => omega
    | succ m' =>
      rw [sX4_layerFarthestOut_4, sX7_farthest_4, h6, h11, ifle (by omega) (by omega), ifle (by omega) (by omega), if_neg (ii_nn (by omega)), ii_n (by omega), ii_n (by omega), ii_s]
      by_cases c : n ≤ y
      · rw [if_pos c, if_pos c]; exact ⟨x, hx, rfl, rfl⟩
      · rw [if_neg c, if_neg c, he x hx, he y (by omega)]
        by_cases d : w 4 y ≤ w 4 x
        · rw [if_pos d, if_pos d]; exact ih m' x (y + 1) hx (by omega) (by omega) (by omega)
        · rw [if_neg d, if_neg d]; exact ih m' y (y + 1) (by omega) (by omega) (by omega) (by omega)
theorem WR.far {n : Nat} {c : Nat → Nat} {a w : Nat → Nat → Int32} (h : WR n c a w) (h0 : 0 < n) : ∃ z, z < n ∧ sX4_layerFarthestOut a = ii z ∧ sX7_farthest w = ii z := by
  obtain ⟨z, h1, h2, h3⟩ := e_far h.a6 h.w11 h.n (fun j hj => (h.L hj).2.2.1.1) 12 13 0 1 h0 h0 (by have := h.n; omega) (by have := h.n; omega)
  refine ⟨z, h1, ?_, h3⟩
  unfold sX4_layerFarthestOut
  have hn := h.n
  have e0 : (0 : Int32) = ii 0 := rfl
  rw [sX4_layerFarthestOut_4, h.a6, e0, ifle (by omega) (by omega), if_neg (by omega), if_pos (by decide), ii_s]
  exact h2
theorem WR.far0 {n : Nat} {c : Nat → Nat} {a w : Nat → Nat → Int32} (h : WR n c a w) (h0 : n = 0) : sX4_layerFarthestOut a = -1 := by
  unfold sX4_layerFarthestOut
  have e0 : (0 : Int32) = ii 0 := rfl
  rw [sX4_layerFarthestOut_4, h.a6, e0, ifle (by omega) (by omega), if_pos (by omega)]
theorem ii_0 {n : Nat} (hn : n < 2147483648) : ii n = 0 ↔ n = 0 := show ii n = ii 0 ↔ n = 0 from ii_inj hn (by omega)
theorem WR.width {n : Nat} {c : Nat → Nat} {a w : Nat → Nat → Int32} (h : WR n c a w) : sX4_width a = sX7_widthNow w := by
  unfold sX4_width sX7_widthNow
  have hn := h.n
  by_cases h0 : n = 0
  · rw [h.far0 h0, h.w11, if_neg (by decide), if_pos ((ii_0 (by omega)).mpr h0)]; rfl
  · obtain ⟨z, h1, h2, h3⟩ := h.far (by omega)
    rw [h2, h3, h.w11, if_pos (ii_0le (by omega)), if_neg (fun e => h0 ((ii_0 (by omega)).mp e)), ii_n (by omega), (h.L h1).2.2.1.1]
/-! shifts -/
theorem q6p (i p : Nat) : (6 : Int32) * ii i + ii p = ii (6 * i + p) := by
  have e : (6 : Int32) = ii 6 := rfl
  rw [e, ii_m, ii_a]
theorem WR.shift {n : Nat} {c : Nat → Nat} {a w : Nat → Nat → Int32} (h : WR n c a w) {i p k : Nat} (hi : i < 2) (hp : p < c i) (hk : k < n) : sX4_shiftOf a (ii i) (ii p) (ii k) = sX7_shiftAt w (ii (6 * i + p)) (ii k) := by
  have hn := h.n
  obtain ⟨y1, y2, y3, y4⟩ := h.Y hi
  obtain ⟨⟨y5, -⟩, ⟨y6, -⟩, -⟩ := y4 p hp
  obtain ⟨-, -, ⟨l2, -⟩, ⟨l3, -⟩, -, l5⟩ := h.L hk
  unfold sX4_shiftOf sX7_shiftAt
  rw [ii_n (by omega), ii_n (by omega), ii_n (by omega), ii_n (by omega), y5, y6, l2, l3, l5, e_load h.w11 hn (by omega)]
  congr 1
  split
  · rfl
  · rw [Int32.zero_sub]
theorem dv_b {x c : Int32} {m : Int} (hc : c.toInt = m) (h3 : 3 ≤ m) : -800000000 ≤ (x / c).toInt ∧ (x / c).toInt ≤ 800000000 := by
  have hne : c ≠ -1 := fun e => by rw [e, q_m1] at hc; omega
  rw [Int32.toInt_div_of_ne_right _ _ hne, hc]
  have b := j_rng x
  have h1 : (x.toInt.tdiv m).natAbs = x.toInt.natAbs / m.natAbs := Int.natAbs_tdiv _ _
  have h2 : x.toInt.natAbs / m.natAbs ≤ x.toInt.natAbs / 3 := Nat.div_le_div_left (by omega) (by omega)
  omega
theorem shift_b (w : Nat → Nat → Int32) (x y : Int32) : -800000000 ≤ (sX7_shiftAt w x y).toInt ∧ (sX7_shiftAt w x y).toInt ≤ 800000000 := by
  unfold sX7_shiftAt
  split
  · split
    · exact dv_b q_40 (by omega)
    · exact dv_b q_40 (by omega)
  · split
    · exact dv_b q_60 (by omega)
    · split
      · exact dv_b q_3 (by omega)
      · split
        · exact dv_b q_50 (by omega)
        · rw [q_0]; omega
theorem rg_ii {x : Int32} {m : Nat} {lo : Int} (h : rg x lo m) (h0 : 0 ≤ lo) : ∃ k, k ≤ m ∧ x = ii k := by
  obtain ⟨h1, h2⟩ := h
  exact ⟨x.toInt.toNat, by omega, ii_of (by omega)⟩
theorem bd_all : ∀ k, k ≤ 6 → ∀ s, s ≤ 20 → 0 ≤ (sX0_binding (ii k) (ii s)).toInt ∧ (sX0_binding (ii k) (ii s)).toInt ≤ 160 ∧ (1 ≤ s → bdg (ii k) (ii s) 0 = sX0_binding (ii k) (ii s)) := by decide +kernel
theorem bdg_0 {kd s : Int32} (hk : rg kd 0 6) (hs : rg s 1 20) : bdg kd s 0 = sX0_binding kd s := by
  obtain ⟨h1, h2⟩ := hs
  obtain ⟨k, k1, rfl⟩ := rg_ii (m := 6) hk (by omega)
  rw [ii_of (x := s) (by omega)]
  exact (bd_all k k1 s.toInt.toNat (by omega)).2.2 (by omega)
theorem bd_b {kd s : Int32} (hk : rg kd 0 6) (hs : rg s 1 20) : 0 ≤ (sX0_binding kd s).toInt ∧ (sX0_binding kd s).toInt ≤ 160 := by
  obtain ⟨h1, h2⟩ := hs
  obtain ⟨k, k1, rfl⟩ := rg_ii (m := 6) hk (by omega)
  rw [ii_of (x := s) (by omega)]
  have := bd_all k k1 s.toInt.toNat (by omega)
  exact ⟨this.1, this.2.1⟩
theorem bdg_b {kd s b : Int32} (hk : rg kd 0 6) (hs : rg s 1 20) (hb : rg b 0 20) : 0 ≤ (bdg kd s b).toInt ∧ (bdg kd s b).toInt ≤ 160 := by
  have h1 := bd_b hk hs
  obtain ⟨h2, h3⟩ := hb
  have e1 := i_mull (a := 4) (b := b) q_4 (by omega) (by omega)
  have e2 := i_sub (a := sX0_binding kd s) (b := 4 * b) (by omega) (by omega)
  unfold bdg
  rw [al_max]
  split
  · rename_i c; have := i_lt c; rw [q_0] at this; omega
  · rw [q_0]; omega
theorem WR.strength {n : Nat} {c : Nat → Nat} {a w : Nat → Nat → Int32} (h : WR n c a w) {k : Nat} (hk : k < n) : sX4_strengthOf a (ii k) = sX7_bindingOf w (ii k) + 15 * w 1 0 ∧ 0 ≤ (sX4_strengthOf a (ii k)).toInt ∧ (sX4_strengthOf a (ii k)).toInt ≤ 340 := by
  have hn := h.n
  obtain ⟨⟨-, l0⟩, ⟨-, l1⟩, -, -, ⟨l4, l6⟩, -⟩ := h.L hk
  have hb := bdg_b l0 l1 l6
  obtain ⟨s1, s2⟩ := h.s0
  unfold sX4_strengthOf
  rw [e_binding (by omega), ii_n (by omega), l4, h.S (by omega)]
  have e1 := i_mull (a := 15) (b := w 1 0) q_15 (by omega) (by omega)
  have e2 := i_add (a := bdg (w 2 k) (w 3 k) (w 6 k)) (b := 15 * w 1 0) (by omega) (by omega)
  exact ⟨rfl, by omega, by omega⟩
theorem WR.spare {n : Nat} {c : Nat → Nat} {a w : Nat → Nat → Int32} (h : WR n c a w) {i p k : Nat} (hi : i < 2) (hp : p < c i) (hk : k < n) : sX7_spare w (ii (6 * i + p)) (ii k) = sX4_strengthOf a (ii k) - sX4_shiftOf a (ii i) (ii p) (ii k) ∧ (sX7_spare w (ii (6 * i + p)) (ii k)).toInt = (sX4_strengthOf a (ii k)).toInt - (sX4_shiftOf a (ii i) (ii p) (ii k)).toInt := by
  have e1 : sX7_spare w (ii (6 * i + p)) (ii k) = sX4_strengthOf a (ii k) - sX4_shiftOf a (ii i) (ii p) (ii k) := by
    unfold sX7_spare
    rw [h.shift hi hp hk, (h.strength hk).1]
  refine ⟨e1, ?_⟩
  rw [e1]
  have h1 := (h.strength hk).2
  have h2 := shift_b w (ii (6 * i + p)) (ii k)
  rw [← h.shift hi hp hk] at h2
  exact i_sub (by omega) (by omega)
