/-! minutes, margins, pitching -/
theorem sm_shift (f : Nat → Int32) (k : Nat) : ∀ m, sm f k m = sm (fun j => f (k + j)) 0 m := by
  intro m
  induction m with
  | zero => rfl
  | succ m ih =>
    show sm f k m + f (k + m) = sm (fun j => f (k + j)) 0 m + f (k + (0 + m))
    rw [ih, Nat.zero_add]
theorem WR.minutes_s {n : Nat} {c : Nat → Nat} {a w : Nat → Nat → Int32} (h : WR n c a w) {i : Nat} (hi : i < 2) : sX7_minutesOf w (ii i) = sm (fun j => w 9 (6 * i + j)) 0 (c i) := by
  obtain ⟨y1, y2, y3, y4⟩ := h.Y hi
  have hF : ∀ m x k, k < 1000 → sX7_minutesOf_7 w (ii i) (m + 1) x (ii k) = if 6 * i + c i ≤ k then x else sX7_minutesOf_7 w (ii i) m (x + w 9 k) (ii (k + 1)) := fun m x k hk => by
    rw [sX7_minutesOf_7, ii_n (by omega), y3, q6p, ii_s, ii_n (by omega), ifle (by omega) (by omega)]
  have e := smL hF (by omega) 13 0 (6 * i) (by omega) (by omega)
  have e6 : (6 : Int32) * ii i = ii (6 * i) := ii_m 6 i
  unfold sX7_minutesOf
  rw [e6, e, Int32.zero_add, show 6 * i + c i - 6 * i = c i by omega, sm_shift]
theorem WR.minutes {n : Nat} {c : Nat → Nat} {a w : Nat → Nat → Int32} (h : WR n c a w) {i : Nat} (hi : i < 2) : sX5_allMinutes (wy a i) = sX7_minutesOf w (ii i) := by
  obtain ⟨y1, y2, y3, y4⟩ := h.Y hi
  have e3 : wy a i 3 0 = ii (c i) := by
    show a (10 + 4 * i + 3) 0 = ii (c i)
    rw [show 10 + 4 * i + 3 = 13 + 4 * i by omega]; exact y2
  have hF : ∀ m x k, k < 1000 → sX5_allMinutes_4 (wy a i) (m + 1) x (ii k) = if c i ≤ k then x else sX5_allMinutes_4 (wy a i) m (x + wy a i 2 k) (ii (k + 1)) := fun m x k hk => by
    rw [sX5_allMinutes_4, e3, ii_s, ii_n (by omega), ifle (by omega) (by omega)]
  have e := smL hF (by omega) 7 0 0 (by omega) (by omega)
  unfold sX5_allMinutes
  rw [h.minutes_s hi]
  refine Eq.trans e ?_
  rw [Int32.zero_add]
  refine sm_cong (c i) (fun j _ hj => ?_)
  show a (10 + 4 * i + 2) j = w 9 (6 * i + j)
  rw [show 10 + 4 * i + 2 = 12 + 4 * i by omega]
  exact (y4 j (by omega)).2.2.1
theorem WR.minutes_b {n : Nat} {c : Nat → Nat} {a w : Nat → Nat → Int32} (h : WR n c a w) {i : Nat} (hi : i < 2) : 0 ≤ (sX7_minutesOf w (ii i)).toInt ∧ (sX7_minutesOf w (ii i)).toInt ≤ 54 := by
  obtain ⟨y1, y2, y3, y4⟩ := h.Y hi
  rw [h.minutes_s hi]
  have := sm_bnd (f := fun j => w 9 (6 * i + j)) (k := 0) (lo := 0) (hi := 9) (by omega) (by omega) (by omega) (c i) (by omega) (fun j _ hj => by
    obtain ⟨g1, g2⟩ := (y4 j (by omega)).2.2.2
    exact ⟨by omega, g2⟩)
  omega
theorem WR.pitch {n : Nat} {c : Nat → Nat} {a w : Nat → Nat → Int32} (h : WR n c a w) {p : Int32} (hp : 1 ≤ p.toInt) : sX4_pitchingMinutes a p = sX7_pitchMinutes w p := by
  unfold sX4_pitchingMinutes sX7_pitchMinutes
  rw [h.sheaves, if_pos (Int32.le_iff_toInt_le.mpr (by rw [q_1]; exact hp))]
theorem pm_all : ∀ s, s < 241 → ∀ p, p < 10 → 1 ≤ p → 0 ≤ (((ii s + ii p) - 1) / ii p).toInt ∧ (((ii s + ii p) - 1) / ii p).toInt ≤ 240 ∧ (1 ≤ s → 1 ≤ (((ii s + ii p) - 1) / ii p).toInt) := by decide +kernel
theorem WR.pitch_b {n : Nat} {c : Nat → Nat} {a w : Nat → Nat → Int32} (h : WR n c a w) {p : Int32} (hp : rg p 1 9) : 0 ≤ (sX7_pitchMinutes w p).toInt ∧ (sX7_pitchMinutes w p).toInt ≤ 240 ∧ (1 ≤ n → 1 ≤ (sX7_pitchMinutes w p).toInt) := by
  have hs := h.sheaves_b
  have hn := h.n
  obtain ⟨h1, h2⟩ := hp
  have e1 := ii_of (x := p) (by omega)
  have e2 := ii_of (x := sX7_allSheaves w) (by omega)
  have := pm_all (sX7_allSheaves w).toInt.toNat (by omega) p.toInt.toNat (by omega) (by omega)
  unfold sX7_pitchMinutes
  rw [e1, e2]
  exact ⟨this.1, this.2.1, fun q => this.2.2 (by omega)⟩
def mn (v x : Int32) : Int32 := if v < x then v else x
theorem mn_t (v x : Int32) : (mn v x).toInt = min v.toInt x.toInt := by
  unfold mn
  split
  · rename_i h; have := i_lt h; omega
  · rename_i h; have := i_nlt h; omega
def fm (f : Nat → Int32) : Nat → Nat → Int32 → Int32
  | 0, _, x => x
  | m + 1, k, x => fm f m (k + 1) (mn (f k) x)
theorem fmL {α : Type} {F : Nat → Int32 → Int32 → α} {g : Int32 → α} {f : Nat → Int32} {n : Nat} (hF : ∀ m x k, k < 1000 → F (m + 1) x (ii k) = if n ≤ k then g x else F m (mn (f k) x) (ii (k + 1))) (hn : n < 1000) : ∀ m x k, k ≤ n → n - k < m → F m x (ii k) = g (fm f (n - k) k x) := by
  intro m
  induction m with
  | zero => intro x k h1 h2; omega
  | succ m ih =>
    intro x k h1 h2
    rw [hF m x k (by omega)]
    by_cases c : n ≤ k
    · rw [if_pos c, show n - k = 0 by omega, fm]
    · rw [if_neg c, ih _ _ (by omega) (by omega), show n - k = (n - (k + 1)) + 1 by omega, fm]
theorem fm_min (f : Nat → Int32) : ∀ m k x, x.toInt ≤ 9999 → fm f m k x = mn (fm f m k 9999) x ∧ (fm f m k x).toInt ≤ x.toInt := by
  intro m
  induction m with
  | zero =>
    intro k x hx
    refine ⟨?_, Int.le_refl _⟩
    apply Int32.toInt_inj.mp
    show x.toInt = (mn 9999 x).toInt
    rw [mn_t, q_9999]; omega
  | succ m ih =>
    intro k x hx
    have t1 := mn_t (f k) x
    have t2 := mn_t (f k) 9999
    rw [q_9999] at t2
    obtain ⟨a1, a2⟩ := ih (k + 1) (mn (f k) x) (by omega)
    obtain ⟨b1, b2⟩ := ih (k + 1) (mn (f k) 9999) (by omega)
    rw [fm, fm]
    refine ⟨?_, by omega⟩
    apply Int32.toInt_inj.mp
    rw [a1, b1]
    simp only [mn_t, q_9999]
    omega
theorem fm_cong {f g : Nat → Int32} : ∀ m k x, (∀ j, k ≤ j → j < k + m → f j = g j) → fm f m k x = fm g m k x := by
  intro m
  induction m with
  | zero => intro k x _; rfl
  | succ m ih =>
    intro k x h
    rw [fm, fm, h k (by omega) (by omega), ih (k + 1) _ (fun j a b => h j (by omega) (by omega))]
theorem WR.marginAt {n : Nat} {c : Nat → Nat} {a w : Nat → Nat → Int32} (h : WR n c a w) {i p : Nat} (hi : i < 2) (hp : p < c i) : sX4_marginAt a (ii i) (ii p) = fm (fun k => sX7_spare w (ii (6 * i + p)) (ii k)) n 0 9999 := by
  have hn := h.n
  have hF : ∀ m x k, k < 1000 → sX4_marginAt_7 a (ii i) (ii p) (m + 1) x (ii k) = if n ≤ k then id x else sX4_marginAt_7 a (ii i) (ii p) m (mn ((fun k => sX4_strengthOf a (ii k) - sX4_shiftOf a (ii i) (ii p) (ii k)) k) x) (ii (k + 1)) := fun m x k hk => by
    rw [sX4_marginAt_7, h.a6, ii_s, ifle (by omega) (by omega)]
    rfl
  have e := fmL hF (by omega) 13 9999 0 (by omega) (by omega)
  unfold sX4_marginAt
  refine Eq.trans e ?_
  exact fm_cong n 0 9999 (fun j _ hj => (h.spare hi hp (by omega)).1.symm)
theorem WR.margin {n : Nat} {c : Nat → Nat} {a w : Nat → Nat → Int32} (h : WR n c a w) {i : Nat} (hi : i < 2) : sX4_leastMargin a (ii i) = sX7_marginOf w (ii i) := by
  have hn := h.n
  obtain ⟨y1, y2, y3, y4⟩ := h.Y hi
  have e0 : (0 : Int32) = ii 0 := rfl
  have key : ∀ m m' x k, x.toInt ≤ 9999 → k ≤ c i → c i - k < m → c i - k < m' → sX4_leastMargin_6 a (ii i) m x (ii k) = sX7_marginOf_9 w (ii i) m' x (ii (6 * i + k)) := by
    intro m
    induction m with
    | zero => intro m' x k _ _ h1 _; omega
    | succ m ih =>
      intro m' x k hx hk h1 h2
      cases m' with
      | zero => omega
      | succ m' =>
        have e4 : (4 : Int32) = ii 4 := rfl
        rw [sX4_leastMargin_6, sX7_marginOf_9, ii_n (by omega), ii_n (by omega), y2, y3, q6p, ifle (by omega) (by omega), ifle (by omega) (by omega), ii_s]
        by_cases c1 : c i ≤ k
        · rw [if_pos c1, if_pos (by omega)]
        · rw [if_neg c1, if_neg (show ¬ 6 * i + c i ≤ 6 * i + k by omega)]
          obtain ⟨z, z1, z2, z3⟩ := e_kind h hi (p := k) (by omega)
          have es := e_isShift (w := w) (q := 6 * i + k) (z := z) (by omega) (by omega) z3
          rw [z2, e4, ifle (by omega) (by omega)]
          by_cases h4 : 4 ≤ z
          · rw [if_pos h4] at es ⊢
            have e := ih m' x (k + 1) hx (by omega) (by omega) (by omega)
            rw [e, e0, sX7_marginOf_27, h.w11, es, ii_s, show 6 * i + k + 1 = 6 * i + (k + 1) by omega]
            rw [if_pos rfl]
            split <;> rfl
          · rw [if_neg h4] at es ⊢
            have hF : ∀ f x j, j < 1000 → sX7_marginOf_27 w (ii (6 * i + k)) (sX7_marginOf_9 w (ii i) m') (f + 1) x (ii j) = if n ≤ j then (fun x => sX7_marginOf_9 w (ii i) m' x (ii (6 * i + (k + 1)))) x else sX7_marginOf_27 w (ii (6 * i + k)) (sX7_marginOf_9 w (ii i) m') f (mn ((fun j => sX7_spare w (ii (6 * i + k)) (ii j)) j) x) (ii (j + 1)) := fun f x j hj => by
              rw [sX7_marginOf_27, h.w11, es, ii_s, ii_s, ifle (by omega) (by omega), show 6 * i + k + 1 = 6 * i + (k + 1) by omega]
              by_cases c2 : n ≤ j
              · rw [if_pos c2, if_pos c2]
              · rw [if_neg c2, if_neg c2, if_neg (by decide)]
                unfold mn
                by_cases c3 : x ≤ sX7_spare w (ii (6 * i + k)) (ii j)
                · have : ¬ sX7_spare w (ii (6 * i + k)) (ii j) < x := fun q => by have := i_lt q; have := i_le c3; omega
                  rw [if_pos c3, if_neg this]
                · have : sX7_spare w (ii (6 * i + k)) (ii j) < x := Int32.lt_iff_toInt_lt.mpr (i_nle c3)
                  rw [if_neg c3, if_pos this]
            have e := fmL (g := fun x => sX7_marginOf_9 w (ii i) m' x (ii (6 * i + (k + 1)))) hF (by omega) 13 x 0 (by omega) (by omega)
            rw [e0, e, h.marginAt hi (by omega)]
            obtain ⟨f1, f2⟩ := fm_min (fun j => sX7_spare w (ii (6 * i + k)) (ii j)) n 0 x hx
            show sX4_leastMargin_6 a (ii i) m (mn (fm (fun k_1 => sX7_spare w (ii (6 * i + k)) (ii k_1)) n 0 9999) x) (ii (k + 1)) = sX7_marginOf_9 w (ii i) m' (fm (fun j => sX7_spare w (ii (6 * i + k)) (ii j)) n 0 x) (ii (6 * i + (k + 1)))
            rw [f1] at f2 ⊢
            exact ih m' _ (k + 1) (by omega) (by omega) (by omega) (by omega)
  unfold sX4_leastMargin sX7_marginOf
  have e6 : (6 : Int32) * ii i = ii (6 * i) := ii_m 6 i
  have e := key 7 13 9999 0 (by rw [q_9999]; omega) (by omega) (by omega) (by omega)
  rw [e6]
  exact e
/-! rounds of wagons -/
theorem e_back {A W : Nat → Nat → Int32} (hAW : ∀ j, j < 4 → A 9 j = W 25 j) (w : Nat → Nat → Int32) (a1 a3 x6 x7 : Int32) (rc : Int32 → Int32 → (Nat → Nat → Int32) → (Int32 × (Nat → Nat → Int32))) {b : Nat} (hb : b ≤ 4) : ∀ m m' x y, x < 4 → y ≤ b → b - y < m → b - y < m' → ∃ z, z < 4 ∧ sX4_firstBack_4 A (ii b) m (ii x) (ii y) = ii z ∧ sX7_homeSheaves_54 w a1 (ii b) a3 x6 x7 W rc m' (ii x) (ii y) = sX7_homeSheaves_54 w a1 (ii b) a3 x6 x7 W rc 1 (ii z) (ii b) := by
  intro m
  induction m with
  | zero => intro m' x y _ _ h _; omega
  | succ m ih =>
    intro m' x y hx hy h1 h2
    cases m' with
    | zero => omega
    | succ m' =>
      have e4 : (4 : Int32) = ii 4 := rfl
      rw [sX4_firstBack_4, ifle (by omega) (by omega), e4, ifle (by omega) (by omega), ii_n (by omega), ii_n (by omega), ii_s]
      by_cases c : b ≤ y
      · rw [if_pos c, show y = b by omega]
        refine ⟨x, hx, rfl, ?_⟩
        rw [sX7_homeSheaves_54, sX7_homeSheaves_54, if_pos (Int32.le_refl _), if_pos (Int32.le_refl _)]
      · rw [if_neg c, if_neg (by omega), hAW x hx, hAW y (by omega), sX7_homeSheaves_54, if_neg (fun q => c ((ii_le (by omega) (by omega)).mp q)), ii_n (by omega), ii_n (by omega), ii_s]
        by_cases d : W 25 x ≤ W 25 y
        · rw [if_pos d, if_pos d]; exact ih m' x (y + 1) hx (by omega) (by omega) (by omega)
        · rw [if_neg d, if_neg d]; exact ih m' y (y + 1) (by omega) (by omega) (by omega) (by omega)
