/-! where it slips -/
theorem WR.keep {n : Nat} {c : Nat → Nat} {a w u : Nat → Nat → Int32} (h : WR n c a w) (hu : ∀ q, 1 ≤ q → q ≤ 11 → u q = w q) : WR n c a u := by
  have ew : wt u = wt w := by funext k; unfold wt; rw [hu 2 (by omega) (by omega), hu 3 (by omega) (by omega)]
  unfold WR LR YR at h ⊢
  rw [ew, hu 1 (by omega) (by omega), hu 2 (by omega) (by omega), hu 3 (by omega) (by omega), hu 4 (by omega) (by omega), hu 5 (by omega) (by omega), hu 6 (by omega) (by omega), hu 7 (by omega) (by omega), hu 8 (by omega) (by omega), hu 9 (by omega) (by omega), hu 10 (by omega) (by omega), hu 11 (by omega) (by omega)]
  exact h
def SP (a : Nat → Nat → Int32) (i p k : Nat) : Bool := !decide (sX4_slipsAt a (ii i) (ii p) (ii k) = 0)
def LSl (a : Nat → Nat → Int32) (i p n : Nat) : Nat := sk (SP a i p) n 0
def PSl (a : Nat → Nat → Int32) (i n c : Nat) : Nat := sk (fun p => decide (LSl a i p n < n)) c 0
theorem SP_t {a : Nat → Nat → Int32} {i p k : Nat} : SP a i p k = true ↔ ¬ sX4_slipsAt a (ii i) (ii p) (ii k) = 0 := by unfold SP; simp
theorem SP_f {a : Nat → Nat → Int32} {i p k : Nat} : SP a i p k = false ↔ sX4_slipsAt a (ii i) (ii p) (ii k) = 0 := by unfold SP; simp
theorem e_layerOfSlip {n : Nat} {a : Nat → Nat → Int32} (h6 : a 6 0 = ii n) (hn : n ≤ 12) (i p : Nat) : sX4_layerOfSlip a (ii i) (ii p) = if LSl a i p n < n then ii (LSl a i p n) else -1 := by
  unfold sX4_layerOfSlip
  have hF : ∀ m k, k < 1000 → sX4_layerOfSlip_2 a (ii i) (ii p) (m + 1) (ii k) = if n ≤ k then -1 else if SP a i p k = true then ii k else sX4_layerOfSlip_2 a (ii i) (ii p) m (ii (k + 1)) := fun m k hk => by
    rw [sX4_layerOfSlip_2, h6, ii_s, ifle (by omega) (by omega)]
    by_cases c : n ≤ k
    · rw [if_pos c, if_pos c]
    · rw [if_neg c, if_neg c]
      by_cases d : sX4_slipsAt a (ii i) (ii p) (ii k) = 0
      · rw [if_pos d, if_neg (by rw [SP_f.mpr d]; decide)]
      · rw [if_neg d, if_pos (SP_t.mpr d)]
  exact skL (g := ii) hF (by omega) 13 0 (by omega) (by omega)
theorem e_pieceOfSlip {n c : Nat} {a : Nat → Nat → Int32} (h6 : a 6 0 = ii n) (hn : n ≤ 12) {i : Nat} (hi : i < 2) (hc : a (13 + 4 * i) 0 = ii c) (hc6 : c ≤ 6) : sX4_pieceOfSlip a (ii i) = if PSl a i n c < c then ii (PSl a i n c) else -1 := by
  unfold sX4_pieceOfSlip
  have hF : ∀ m k, k < 1000 → sX4_pieceOfSlip_2 a (ii i) (m + 1) (ii k) = if c ≤ k then -1 else if (fun p => decide (LSl a i p n < n)) k = true then ii k else sX4_pieceOfSlip_2 a (ii i) m (ii (k + 1)) := fun m k hk => by
    rw [sX4_pieceOfSlip_2, ii_n (by omega), hc, ii_s, ifle (by omega) (by omega), e_layerOfSlip h6 hn]
    by_cases c1 : c ≤ k
    · rw [if_pos c1, if_pos c1]
    · rw [if_neg c1, if_neg c1]
      by_cases d : LSl a i k n < n
      · rw [if_pos d, if_neg (ii_nn (by omega)), if_pos (by simp [d])]
      · rw [if_neg d, if_pos (by decide), if_neg (by simp [d])]
  exact skL (g := ii) hF (by omega) 7 0 (by omega) (by omega)
theorem WR.pieceOfSlip {n : Nat} {c : Nat → Nat} {a w : Nat → Nat → Int32} (h : WR n c a w) {i : Nat} (hi : i < 2) : sX4_pieceOfSlip a (ii i) = if PSl a i n (c i) < c i then ii (PSl a i n (c i)) else -1 := e_pieceOfSlip h.a6 h.n hi (h.Y hi).2.1 (h.Y hi).1
theorem WR.layerOfSlip {n : Nat} {c : Nat → Nat} {a w : Nat → Nat → Int32} (h : WR n c a w) (i p : Nat) : sX4_layerOfSlip a (ii i) (ii p) = if LSl a i p n < n then ii (LSl a i p n) else -1 := e_layerOfSlip h.a6 h.n i p
theorem WR.holds {n : Nat} {c : Nat → Nat} {a w : Nat → Nat → Int32} (h : WR n c a w) {i : Nat} (hi : i < 2) : sX4_holds a (ii i) = if PSl a i n (c i) < c i then 0 else 1 := by
  unfold sX4_holds
  rw [h.pieceOfSlip hi]
  have := (h.Y hi).1
  by_cases d : PSl a i n (c i) < c i
  · rw [if_pos d, if_pos d, if_pos (ii_0le (by omega))]
  · rw [if_neg d, if_neg d, if_neg (by decide)]
theorem e_kind {n : Nat} {c : Nat → Nat} {a w : Nat → Nat → Int32} (h : WR n c a w) {i p : Nat} (hi : i < 2) (hp : p < c i) : ∃ z, z ≤ 5 ∧ a (10 + 4 * i) p = ii z ∧ w 7 (6 * i + p) = ii z := by
  obtain ⟨y1, y2, y3, y4⟩ := h.Y hi
  obtain ⟨⟨y5, y6⟩, -⟩ := y4 p hp
  obtain ⟨z, z1, z2⟩ := rg_ii (m := 5) y6 (by omega)
  exact ⟨z, z1, by rw [y5, z2], z2⟩
theorem e_isShift {w : Nat → Nat → Int32} {q z : Nat} (hq : q < 1000) (hz : z < 1000) (h : w 7 q = ii z) : sX7_isShift w (ii q) = if 4 ≤ z then 0 else 1 := by
  have e4 : (4 : Int32) = ii 4 := rfl
  unfold sX7_isShift
  rw [ii_n (by omega), h, e4, ifle (by omega) (by omega)]
theorem WR.caught {n : Nat} {c : Nat → Nat} {a w : Nat → Nat → Int32} (h : WR n c a w) {i p : Nat} (hi : i < 2) (hp : p < c i) {z : Nat} (hz : z ≤ 5) (ha : a (10 + 4 * i) p = ii z) (hw : w 7 (6 * i + p) = ii z) (h4 : 4 ≤ z) : (sX7_caught w (ii (6 * i + p)) = -9 ∧ ∀ j, j < n → SP a i p j = false) ∨ ∃ d, d < n ∧ sX7_caught w (ii (6 * i + p)) = ii d ∧ ∀ j, j < n → SP a i p j = decide (j = d) := by
  have hn := h.n
  obtain ⟨y1, y2, y3, y4⟩ := h.Y hi
  obtain ⟨-, ⟨y7, -⟩, -⟩ := y4 p hp
  unfold sX7_caught
  rw [h.w11, ii_n (by omega), hw]
  by_cases h0 : n = 0
  · left
    rw [if_pos ((ii_0 (by omega)).mpr h0)]
    exact ⟨rfl, fun j hj => by omega⟩
  · rw [if_neg (fun e => h0 ((ii_0 (by omega)).mp e))]
    by_cases z4 : z = 4
    · subst z4
      have e4 : ii 4 = 4 := rfl
      rw [if_pos e4]
      have es : ∀ j, j < n → sX4_slipsAt a (ii i) (ii p) (ii j) = if j = n - 1 then (if sX7_heightNow w ≤ 40 + 4 * w 8 (6 * i + p) then 0 else 1) else 0 := fun j hj => by
        have e1 : (1 : Int32) = ii 1 := rfl
        unfold sX4_slipsAt
        rw [ii_n (by omega), ii_n (by omega), ha, if_pos e4, h.a6, e1, ii_b (by omega), h.height, y7]
        by_cases e : j = n - 1
        · rw [if_pos (by rw [e]), if_pos e]
        · rw [if_neg (fun q => e ((ii_inj (by omega) (by omega)).mp q)), if_neg e]
      by_cases H : sX7_heightNow w ≤ 40 + 4 * w 8 (6 * i + p)
      · left
        rw [if_pos H]
        refine ⟨rfl, fun j hj => SP_f.mpr ?_⟩
        rw [es j hj, if_pos H]
        split <;> rfl
      · right
        refine ⟨n - 1, by omega, ?_, fun j hj => ?_⟩
        · rw [if_neg H]
          exact ii_b (j := 1) (by omega)
        · by_cases e : j = n - 1
          · rw [SP_t.mpr (by rw [es j hj, if_pos e, if_neg H]; decide)]; simp [e]
          · rw [SP_f.mpr (by rw [es j hj, if_neg e])]; simp [e]
    · have z5 : z = 5 := by omega
      subst z5
      have e5 : ii 5 = 5 := rfl
      have n54 : ¬ ii 5 = 4 := by decide
      obtain ⟨d, d1, d2, d3⟩ := h.far (by omega)
      rw [if_neg n54]
      have es : ∀ j, j < n → sX4_slipsAt a (ii i) (ii p) (ii j) = if j = d then (if sX7_widthNow w ≤ 90 + w 8 (6 * i + p) then 0 else 1) else 0 := fun j hj => by
        unfold sX4_slipsAt
        rw [ii_n (by omega), ii_n (by omega), ha, if_neg n54, if_pos e5, d2, h.width, y7]
        by_cases e : j = d
        · rw [if_pos (by rw [e]), if_pos e]
        · rw [if_neg (fun q => e ((ii_inj (by omega) (by omega)).mp q)), if_neg e]
      by_cases H : sX7_widthNow w ≤ 90 + w 8 (6 * i + p)
      · left
        rw [if_pos H]
        refine ⟨rfl, fun j hj => SP_f.mpr ?_⟩
        rw [es j hj, if_pos H]
        split <;> rfl
      · right
        refine ⟨d, d1, ?_, fun j hj => ?_⟩
        · rw [if_neg H, d3]
        · by_cases e : j = d
          · rw [SP_t.mpr (by rw [es j hj, if_pos e, if_neg H]; decide)]; simp [e]
          · rw [SP_f.mpr (by rw [es j hj, if_neg e])]; simp [e]
theorem WR.slips {n : Nat} {c : Nat → Nat} {a w : Nat → Nat → Int32} (h : WR n c a w) {i p k : Nat} (hi : i < 2) (hp : p < c i) (hk : k < n) {z : Nat} (hz : z ≤ 3) (ha : a (10 + 4 * i) p = ii z) : (SP a i p k = true ↔ ¬ (0 : Int32) ≤ sX7_spare w (ii (6 * i + p)) (ii k)) := by
  have hn := h.n
  have hc := (h.Y hi).1
  have e4 : (4 : Int32) = ii 4 := rfl
  have e5 : (5 : Int32) = ii 5 := rfl
  have es : sX4_slipsAt a (ii i) (ii p) (ii k) = if sX4_shiftOf a (ii i) (ii p) (ii k) ≤ sX4_strengthOf a (ii k) then 0 else 1 := by
    unfold sX4_slipsAt
    rw [ii_n (by omega), ii_n (by omega), ha, e4, e5, if_neg (fun q => by have := (ii_inj (by omega) (by omega)).mp q; omega), if_neg (fun q => by have := (ii_inj (by omega) (by omega)).mp q; omega)]
  have hs := (h.spare hi hp hk).2
  rw [SP_t, es]
  by_cases d : sX4_shiftOf a (ii i) (ii p) (ii k) ≤ sX4_strengthOf a (ii k)
  · rw [if_pos d]
    have := i_le d
    have e : (0 : Int32) ≤ sX7_spare w (ii (6 * i + p)) (ii k) := Int32.le_iff_toInt_le.mpr (by rw [hs, q_0]; omega)
    simp [e]
  · rw [if_neg d]
    have := i_nle d
    have e : ¬ (0 : Int32) ≤ sX7_spare w (ii (6 * i + p)) (ii k) := fun q => by have := i_le q; rw [hs, q_0] at this; omega
    simp [e]
theorem WR.fell {n : Nat} {c : Nat → Nat} {a w : Nat → Nat → Int32} (h : WR n c a w) {i p : Nat} (hi : i < 2) (hp : p < c i) : sX7_fellBits w (ii (6 * i + p)) = fb (SP a i p) n := by
  have hn := h.n
  have hc := (h.Y hi).1
  obtain ⟨z, z1, z2, z3⟩ := e_kind h hi hp
  unfold sX7_fellBits
  rw [e_isShift (by omega) (by omega) z3]
  by_cases h4 : 4 ≤ z
  · rw [if_pos h4, if_pos rfl]
    rcases h.caught hi hp z1 z2 z3 h4 with ⟨c1, c2⟩ | ⟨d, d1, d2, d3⟩
    · rw [c1, if_neg (by decide), fb_no n c2]
    · rw [d2, if_pos (ii_0le (by omega)), fb_one (by omega) d1 d3]
  · rw [if_neg h4, if_neg (by decide)]
    have hF : ∀ m x k, k < 1000 → sX7_fellBits_32 w (ii (6 * i + p)) (m + 1) x (ii k) = if n ≤ k then id x else if (fun j => !decide ((0 : Int32) ≤ sX7_spare w (ii (6 * i + p)) (ii j))) k = true then sX7_fellBits_32 w (ii (6 * i + p)) m (x ||| (1 <<< (ii k &&& 31))) (ii (k + 1)) else sX7_fellBits_32 w (ii (6 * i + p)) m x (ii (k + 1)) := fun m x k hk => by
      rw [sX7_fellBits_32, h.w11, ii_s, ifle (by omega) (by omega)]
      by_cases d : (0 : Int32) ≤ sX7_spare w (ii (6 * i + p)) (ii k)
      · rw [if_pos d, Int32.or_zero]; simp [d]
      · rw [if_neg d]; simp [d]
    have e := fbL hF (by omega) 13 0 (by omega) (by omega)
    have e2 : sX7_fellBits_32 w (ii (6 * i + p)) 13 0 0 = fb (fun j => !decide ((0 : Int32) ≤ sX7_spare w (ii (6 * i + p)) (ii j))) n := e
    rw [e2]
    refine fb_cong n (fun j hj => ?_)
    have := h.slips hi hp hj (by omega) z2
    by_cases d : (0 : Int32) ≤ sX7_spare w (ii (6 * i + p)) (ii j)
    · have f : SP a i p j = false := Bool.eq_false_iff.mpr (fun q => (this.mp q) d)
      rw [f]; simp [d]
    · rw [this.mpr d]; simp [d]
theorem e_find52 {n : Nat} {P : Nat → Bool} {a1 x : Int32} {u : Nat → Nat → Int32} (hB : sX7_fellBits u ((6 * a1) + x) = fb P n) (hn : n ≤ 12) {L : Nat} (hL : L < n) (hP : P L = true) (hN : ∀ j, j < L → P j = false) : ∀ m k v, v 24 0 = ii k → k ≤ L → L - k < m → (∀ q, q ≠ 24 → sX7_findSlip_52 a1 u x m v q = v q) ∧ sX7_findSlip_52 a1 u x m v 24 0 = ii L := by
  intro m
  induction m with
  | zero => intro k v _ _ h; omega
  | succ m ih =>
    intro k v hv hk hm
    rw [sX7_findSlip_52, hB, hv]
    have hb := gb (x := fb P n) (j := k) (by omega)
    rw [fb_bit P n (by omega) k (by omega)] at hb
    by_cases e : k = L
    · subst e
      rw [if_neg (fun q => by have := hb.mp q; simp [hL, hP] at this)]
      exact ⟨fun _ _ => rfl, hv⟩
    · rw [if_pos (hb.mpr (by rw [hN k (by omega)]; simp)), ii_s]
      simp only [bns]
      obtain ⟨g1, g2⟩ := ih (k + 1) (st v 24 0 (ii (k + 1))) st_rd (by omega) (by omega)
      exact ⟨fun q hq => by rw [g1 q hq, st_o hq], g2⟩
theorem e_find14 {n : Nat} {c : Nat → Nat} {a u : Nat → Nat → Int32} (h : WR n c a u) {i : Nat} (hi : i < 2) (h23 : u 23 0 = -9) (h24 : u 24 0 = -9) : ∀ m k, k ≤ c i → c i - k < m → (∀ q, q ≠ 23 → q ≠ 24 → sX7_findSlip_14 (ii i) u m (ii k) q = u q) ∧ (if sk (fun p => decide (LSl a i p n < n)) (c i - k) k < c i then sX7_findSlip_14 (ii i) u m (ii k) 23 0 = ii (sk (fun p => decide (LSl a i p n < n)) (c i - k) k) ∧ sX7_findSlip_14 (ii i) u m (ii k) 24 0 = ii (LSl a i (sk (fun p => decide (LSl a i p n < n)) (c i - k) k) n) else sX7_findSlip_14 (ii i) u m (ii k) 23 0 = -9 ∧ sX7_findSlip_14 (ii i) u m (ii k) 24 0 = -9) := by
  have hn := h.n
  obtain ⟨y1, y2, y3, y4⟩ := h.Y hi
  intro m
  induction m with
  | zero => intro k _ h; omega
  | succ m ih =>
    intro k hk hm
    rw [sX7_findSlip_14, ii_n (by omega), y3, ifle (by omega) (by omega)]
    by_cases c1 : c i ≤ k
    · rw [if_pos c1, show c i - k = 0 by omega, sk, if_neg (by omega)]
      exact ⟨fun _ _ _ => rfl, h23, h24⟩
    · have hB := h.fell hi (p := k) (by omega)
      have esk : sk (fun p => decide (LSl a i p n < n)) (c i - k) k = (if LSl a i k n < n then k else sk (fun p => decide (LSl a i p n < n)) (c i - (k + 1)) (k + 1)) := by
        rw [show c i - k = (c i - (k + 1)) + 1 by omega, sk]
        by_cases d : LSl a i k n < n
        · rw [if_pos d]; exact if_pos (by simp [d])
        · rw [if_neg d]; exact if_neg (by simp [d])
      rw [if_neg c1, q6p, hB]
      have hLle := sk_le (SP a i k) n 0
      by_cases d : LSl a i k n < n
      · have hP := sk_yes (SP a i k) n 0 (by unfold LSl at d; omega)
        have hN := sk_no (SP a i k) n 0
        have hne : ¬ fb (SP a i k) n = 0 := fun q => by
          have := fb_0 (by omega) q (LSl a i k n) d
          unfold LSl at this
          rw [hP] at this
          cases this
        rw [if_pos d] at esk
        rw [if_neg hne, esk, if_pos (show k < c i by omega)]
        simp only [bns]
        obtain ⟨g1, g2⟩ := e_find52 (a1 := ii i) (x := ii k) (u := u) (by rw [q6p]; exact hB) hn d hP (fun j hj => hN j (by omega) hj) 33 0 (st (st u 23 0 (ii k)) 24 0 0) st_rd (by omega) (by omega)
        refine ⟨fun q q1 q2 => by rw [g1 q q2, st_o q2, st_o q1], ?_, g2⟩
        rw [g1 23 (by decide), st_o (by decide), st_rd]
      · have e0 : fb (SP a i k) n = 0 := fb_no n (fun j hj => sk_no (SP a i k) n 0 j (by omega) (by unfold LSl at d; omega))
        rw [if_neg d] at esk
        rw [if_pos e0, esk, ii_s]
        exact ih (k + 1) (by omega) (by omega)
theorem WR.find {n : Nat} {c : Nat → Nat} {a w : Nat → Nat → Int32} (h : WR n c a w) {i : Nat} (hi : i < 2) : (∀ q, q ≠ 23 → q ≠ 24 → sX7_findSlip w (ii i) q = w q) ∧ (if PSl a i n (c i) < c i then sX7_findSlip w (ii i) 23 0 = ii (PSl a i n (c i)) ∧ sX7_findSlip w (ii i) 24 0 = ii (LSl a i (PSl a i n (c i)) n) else sX7_findSlip w (ii i) 23 0 = -9 ∧ sX7_findSlip w (ii i) 24 0 = -9) := by
  unfold sX7_findSlip
  simp only [bns]
  have hw : WR n c a (st (st w 23 0 (-9)) 24 0 (-9)) := h.keep (fun q a b => by rw [st_o (by omega), st_o (by omega)])
  have hc := (h.Y hi).1
  obtain ⟨g1, g2⟩ := e_find14 hw hi (by rw [st_o (by decide), st_rd]) st_rd 7 0 (by omega) (by omega)
  refine ⟨fun q q1 q2 => ?_, g2⟩
  have e : (0 : Int32) = ii 0 := rfl
  rw [e, g1 q q1 q2, st_o q2, st_o q1]
theorem WR.doesHold {n : Nat} {c : Nat → Nat} {a w : Nat → Nat → Int32} (h : WR n c a w) {i : Nat} (hi : i < 2) : (sX7_doesHold w (ii i)).1 = sX4_holds a (ii i) ∧ ∀ q, q ≠ 23 → q ≠ 24 → (sX7_doesHold w (ii i)).2 q = w q := by
  obtain ⟨g1, g2⟩ := h.find hi
  have hc := (h.Y hi).1
  rw [h.holds hi]
  unfold sX7_doesHold
  simp only [bns]
  by_cases d : PSl a i n (c i) < c i
  · rw [if_pos d] at g2 ⊢
    rw [g2.1, if_pos (ii_0le (by omega))]
    exact ⟨rfl, g1⟩
  · rw [if_neg d] at g2 ⊢
    rw [g2.1, if_neg (by decide)]
    exact ⟨rfl, g1⟩
