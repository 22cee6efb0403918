/-! becoming another wagon -/
theorem e_become {n : Nat} {c : Nat → Nat} (hn : n ≤ 12) (hc : ∀ i, i < 2 → c i ≤ 6) (v u : Nat → Nat → Int32) : AC n c (sX4_become v u) u := by
  unfold sX4_become sX5_become
  simp only [bns]
  refine ⟨fun q hq j hj => ?_, ?_, fun j hj => ?_, fun i hi => ?_⟩
  · have h12 : j < 12 := by omega
    rcases (show q = 0 ∨ q = 1 ∨ q = 2 ∨ q = 3 ∨ q = 4 ∨ q = 5 by omega) with rfl | rfl | rfl | rfl | rfl | rfl <;> simp [swy, sr, st, va_cpy, h12]
  · simp [swy, sr, st, upd]
  · simp [swy, sr, st, va_cpy, hj]
  · have h6 := hc i hi
    rcases (show i = 0 ∨ i = 1 by omega) with rfl | rfl
    · refine ⟨by simp [swy, sr, st, upd, wy], fun j hj => ?_⟩
      have h7 : j < 6 := by omega
      refine ⟨by simp [swy, sr, st, va_cpy, wy, h7], by simp [swy, sr, st, va_cpy, wy, h7], by simp [swy, sr, st, va_cpy, wy, h7]⟩
    · refine ⟨by simp [swy, sr, st, upd, wy], fun j hj => ?_⟩
      have h7 : j < 6 := by omega
      refine ⟨by simp [swy, sr, st, va_cpy, wy, h7], by simp [swy, sr, st, va_cpy, wy, h7], by simp [swy, sr, st, va_cpy, wy, h7]⟩
theorem WR.become {n : Nat} {c : Nat → Nat} {a w : Nat → Nat → Int32} (h : WR n c a w) (v : Nat → Nat → Int32) : WR n c (sX4_become v a) w := h.keepC (e_become h.n (fun i hi => (h.Y hi).1) v a)
/-! the row -/
theorem S_row {W : Nat → Nat → Nat → Int32} {w : Nat → Nat → Int32} (h : REL W w) (x : Int32) : OK (sX6_row W x) (sX7_row w x) := by
  obtain ⟨⟨n, c, gW⟩, gF, gL, ⟨t, t1, t2, t3, t4⟩, gI, gS⟩ := id h
  have e12 : (12 : Int32) = ii 12 := rfl
  unfold sX6_row sX7_row
  rcases bound_c x 0 99 with ⟨a, b, e⟩ | ⟨a, e⟩ | ⟨a, b, e⟩
  · rw [e, if_pos z00, if_pos a, if_neg (fun q => by have := i_lt q; have := i_le b; omega), t2, t3, e12]
    have b1 := i_le a
    have b2 := i_le b
    rw [q_0] at b1
    rw [q_99] at b2
    by_cases d : t < 12
    · rw [if_pos ((ii_lt (by omega) (by omega)).mpr d), if_neg (fun q => by have := (ii_inj (by omega) (by omega)).mp q; omega), ii_n (by omega)]
      have ea : sX3_add (W 4) x = st (st (W 4) 0 t x) 1 0 (ii (t + 1)) := by
        unfold sX3_add
        rw [t2, e12, ifle (by omega) (by omega), if_neg (by omega), ii_n (by omega)]
        simp only [bns]
        rw [st_o (show ¬ 1 = 0 by decide), t2, ii_s]
      rw [ea]
      simp only [bns]
      rw [st_o (show ¬ 27 = 26 by decide), t3, ii_s, st_rd, sc_s, st_rd]
      refine OK.mk rfl ⟨⟨n, c, gW.keep (sc_o (by decide)) (fun q a b => by rw [st_o (by omega), st_o (by omega)])⟩, gF.keep (sc_o (by decide)) (by rw [st_o (by decide), st_o (by decide)]), gL.keep (sc_o (by decide)) (by rw [st_o (by decide), st_o (by decide)]) (by rw [st_o (by decide), st_o (by decide)]), ⟨t + 1, by omega, by rw [sc_s, st_rd], by rw [st_rd], fun j hj => ?_⟩, gI.keep (sc_o (by decide)) (by rw [sc_o (by decide)]) (fun j hj => by rw [st_o (by decide), st_o (by decide)]) (by rw [st_o (by decide), st_o (by decide)]), gS.keep (by rw [st_o (by decide), st_o (by decide)]) (by rw [st_o (by decide), st_o (by decide)])⟩
      rw [sc_s, st_o (show ¬ 0 = 1 by decide), st_s, st_o (show ¬ 26 = 27 by decide), st_s]
      unfold upd
      by_cases f : j = t
      · rw [if_pos f, if_pos f]; exact ⟨rfl, b1, b2⟩
      · rw [if_neg f, if_neg f]; exact t4 j (by omega)
    · rw [if_neg (fun q => d ((ii_lt (by omega) (by omega)).mp q)), if_pos (by rw [show t = 12 by omega])]
      exact OK.no (h.refuse m6 (by omega) (by omega))
  · rw [e, if_neg n40, if_neg a]
    exact OK.no (h.refuse m4 (by omega) (by omega))
  · rw [e, if_neg n60, if_pos a, if_pos (Int32.lt_iff_toInt_lt.mpr (i_nle b))]
    exact OK.no (h.refuse m6 (by omega) (by omega))
theorem ii_s2 (k : Nat) : ii k + 2 = ii (k + 2) := ii_a k 2
theorem e_twos {v w : Nat → Nat → Int32} {r : Nat} (hr : r ≤ 12) (h1 : v 1 0 = ii r) (h2 : w 27 0 = ii r) (h3 : ∀ j, j < r → v 0 j = w 26 j) : ∀ m k, k ≤ 100 → sX3_isOfTrials_2 v m (ii k) = sX7_areTwos_2 w m (ii k) := by
  intro m
  induction m with
  | zero => intro k _; rfl
  | succ m ih =>
    intro k hk
    rw [sX3_isOfTrials_2, sX7_areTwos_2, h1, h2, ifle (by omega) (by omega), ifle (by omega) (by omega), ii_n (by omega), ii_s2]
    by_cases d : r ≤ k
    · rw [if_pos d, if_pos d]
    · rw [if_neg d, if_neg d, h3 k (by omega)]
      by_cases e : k + 2 ≤ 100
      · rw [ih (k + 2) e]
      · omega
theorem e_allSo {v w : Nat → Nat → Int32} {r : Nat} (hr : r ≤ 12) (h1 : v 1 0 = ii r) (h2 : w 27 0 = ii r) (h3 : ∀ j, j < r → v 0 j = w 26 j) (hev : r % 2 = 0) (x y : Int32) : ∀ m k, k ≤ 100 → k % 2 = 0 → sX3_allSo_2 v x y m (ii (k + 1)) = sX7_isBoundBy_2 w x y m (ii k) := by
  intro m
  induction m with
  | zero => intro k _ _; rfl
  | succ m ih =>
    intro k hk he
    have e1 : ii (k + 1) - 1 = ii k := ii_b (k := k + 1) (j := 1) (by omega)
    rw [sX3_allSo_2, sX7_isBoundBy_2, h1, h2, ifle (by omega) (by omega), ifle (by omega) (by omega), ii_s2, ii_s2, ii_s, e1, ii_n (by omega), ii_n (by omega)]
    by_cases d : r ≤ k
    · rw [if_pos d, if_pos (by omega)]
    · rw [if_neg d, if_neg (show ¬ r ≤ k + 1 by omega), h3 k (by omega), h3 (k + 1) (by omega), show k + 1 + 2 = k + 2 + 1 by omega, ih (k + 2) (by omega) (by omega)]
/-- the last place -/
def gt (p : Nat → Bool) : Nat → Int32
  | 0 => -9
  | k + 1 => if p k = true then ii k else gt p k
theorem e_great {v : Nat → Nat → Int32} {x : Int32} {p : Nat → Bool} (hp : ∀ k, k < 21 → (p k = true ↔ ¬ sX3_allSo v (ii k) x = 0)) : ∀ m k, k < 21 → k + 1 < m → sX3_greatestBinding_3 v x m (ii k) = gt p (k + 1) := by
  intro m
  induction m with
  | zero => intro k _ h; omega
  | succ m ih =>
    intro k hk hm
    rw [sX3_greatestBinding_3, if_neg (ii_nn (by omega)), gt]
    by_cases d : sX3_allSo v (ii k) x = 0
    · rw [if_pos d, if_neg (fun q => (hp k hk).mp q d)]
      simp only [bns]
      cases k with
      | zero =>
        cases m with
        | zero => omega
        | succ m => rw [sX3_greatestBinding_3, if_pos (by decide)]; rfl
      | succ k =>
        have e1 : ii (k + 1) + -1 = ii k := by
          have e2 : ii (k + 1) - 1 = ii k := ii_b (k := k + 1) (j := 1) (by omega)
          rw [← e2, Int32.sub_eq_add_neg]
        rw [e1]
        exact ih k (by omega) (by omega)
    · rw [if_neg d, if_pos ((hp k hk).mpr d)]
theorem e_bound1 {w : Nat → Nat → Int32} {x : Int32} {p : Nat → Bool} (hp : ∀ k, k < 21 → (p k = true ↔ ¬ sX7_isBoundBy w (ii k) x = 0)) : ∀ m k, k ≤ 21 → 21 - k < m → sX7_boundBy_58 w x 1 m (gt p k) (ii k) = (gt p 21, w) := by
  have e21 : (21 : Int32) = ii 21 := rfl
  intro m
  induction m with
  | zero => intro k _ h; omega
  | succ m ih =>
    intro k hk hm
    rw [sX7_boundBy_58, e21, ifle (by omega) (by omega), ii_s]
    by_cases d : 21 ≤ k
    · rw [if_pos d, show k = 21 by omega]
    · have e := ih (k + 1) (by omega) (by omega)
      rw [gt] at e
      rw [if_neg d]
      by_cases f : sX7_isBoundBy w (ii k) x = 0
      · rw [if_pos f]
        rw [if_neg (fun q => (hp k (by omega)).mp q f)] at e
        exact e
      · rw [if_neg f, if_pos rfl]
        rw [if_pos ((hp k (by omega)).mpr f)] at e
        exact e
theorem e_bound0a {w : Nat → Nat → Int32} {x y : Int32} (hy : ¬ y = 1) : ∀ (m k : Nat) (z : Int32), k ≤ 21 → 21 - k < m → 0 ≤ z → sX7_boundBy_58 w x y m z (ii k) = (z, w) := by
  have e21 : (21 : Int32) = ii 21 := rfl
  intro m
  induction m with
  | zero => intro k z _ h; omega
  | succ m ih =>
    intro k z hk hm hz
    rw [sX7_boundBy_58, e21, ifle (by omega) (by omega), ii_s]
    by_cases d : 21 ≤ k
    · rw [if_pos d]
    · rw [if_neg d, if_neg hy, if_pos hz, ih (k + 1) z (by omega) (by omega) hz]
      split <;> rfl
theorem e_bound0 {w : Nat → Nat → Int32} {x y : Int32} {p : Nat → Bool} (hy : ¬ y = 1) (hp : ∀ k, k < 21 → (p k = true ↔ ¬ sX7_isBoundBy w (ii k) x = 0)) : ∀ m k, k ≤ 21 → 21 - k < m → sX7_boundBy_58 w x y m (-9) (ii k) = (if sk p (21 - k) k < 21 then ii (sk p (21 - k) k) else -9, w) := by
  have e21 : (21 : Int32) = ii 21 := rfl
  intro m
  induction m with
  | zero => intro k _ h; omega
  | succ m ih =>
    intro k hk hm
    rw [sX7_boundBy_58, e21, ifle (by omega) (by omega), ii_s, if_neg hy, if_neg (show ¬ (0 : Int32) ≤ -9 by decide)]
    by_cases d : 21 ≤ k
    · rw [if_pos d, show k = 21 by omega]; rfl
    · have esk : sk p (21 - k) k = (if p k = true then k else sk p (21 - (k + 1)) (k + 1)) := by
        rw [show 21 - k = (21 - (k + 1)) + 1 by omega, sk]
      rw [if_neg d, esk]
      by_cases f : sX7_isBoundBy w (ii k) x = 0
      · rw [if_pos f, if_neg (fun q => (hp k (by omega)).mp q f)]
        exact ih (k + 1) (by omega) (by omega)
      · rw [if_neg f, if_pos ((hp k (by omega)).mpr f), if_pos (show k < 21 by omega)]
        exact e_bound0a hy m (k + 1) (ii k) (by omega) (by omega) (ii_0le (by omega))
theorem S_boundBy {W : Nat → Nat → Nat → Int32} {w : Nat → Nat → Int32} (h : REL W w) (x y : Int32) : OK (sX6_boundBy W x y) (sX7_boundBy w x y) := by
  obtain ⟨⟨n, c, gW⟩, gF, gL, ⟨r, r1, r2, r3, r4⟩, gI, gS⟩ := id h
  unfold sX6_boundBy sX7_boundBy
  rcases bound_c x 0 999 with ⟨a, b, e⟩ | ⟨a, e⟩ | ⟨a, b, e⟩
  · rw [e, if_pos z00, if_pos a, if_pos b]
    rcases isIn_c y 0 1 with ⟨f1, f2, f⟩ | ⟨f1, f⟩
    · rw [f, if_neg n10, if_neg (fun q => by have := i_lt q; have := i_le f1; omega), if_pos f2]
      have et : sX3_isOfTrials (W 4) = sX7_areTwos w := e_twos r1 r2 r3 (fun j hj => (r4 j hj).1) 14 1 (by omega)
      rw [et]
      by_cases g : sX7_areTwos w = 0
      · rw [if_pos g, if_pos g]
        exact OK.no (h.refuse m3 (by omega) (by omega))
      · have hev := fX7_areTwos g
        rw [r3, ii_t (by omega)] at hev
        rw [if_neg g, if_neg g]
        have hso : ∀ k, sX3_allSo (W 4) (ii k) x = sX7_isBoundBy w (ii k) x := fun k => e_allSo r1 r2 r3 (fun j hj => (r4 j hj).1) (by omega) (ii k) x 13 0 (by omega) (by omega)
        have hp : ∀ k, k < 21 → ((fun k => !decide (sX7_isBoundBy w (ii k) x = 0)) k = true ↔ ¬ sX7_isBoundBy w (ii k) x = 0) := fun k _ => by simp
        by_cases q : y = 0
        · have y1 : ¬ y = 1 := fun z => by rw [q] at z; revert z; decide
          rw [if_pos q]
          have e0 : sX7_boundBy_58 w x y 22 (-9) 0 = _ := e_bound0 y1 hp 22 0 (by omega) (by omega)
          rw [e0]
          refine OK.mk ?_ h
          have hF : ∀ m k, k < 1000 → sX3_leastBinding_2 (W 4) x (m + 1) (ii k) = if 21 ≤ k then -9 else if (fun k => !decide (sX7_isBoundBy w (ii k) x = 0)) k = true then ii k else sX3_leastBinding_2 (W 4) x m (ii (k + 1)) := fun m k hk => by
            have e20 : (20 : Int32) = ii 20 := rfl
            rw [sX3_leastBinding_2, hso, ii_s, e20]
            by_cases d : 21 ≤ k
            · rw [if_pos d, if_pos ((ii_lt (by omega) (by omega)).mpr (by omega))]
            · rw [if_neg d, if_neg (fun z => by have := (ii_lt (by omega) (by omega)).mp z; omega)]
              by_cases d2 : sX7_isBoundBy w (ii k) x = 0
              · rw [if_pos d2, if_neg (by simp [d2])]
              · rw [if_neg d2, if_pos (by simp [d2])]
          exact skL (g := ii) hF (by omega) 22 0 (by omega) (by omega)
        · rw [if_neg q]
          have y1 : y = 1 := by
            apply Int32.toInt_inj.mp
            have b1 := i_le f1
            have b2 := i_le f2
            have b3 := i_ne q
            rw [q_0] at b1 b3
            rw [q_1] at b2 ⊢
            omega
          subst y1
          have e0 : sX7_boundBy_58 w x 1 22 (-9) 0 = _ := e_bound1 hp 22 0 (by omega) (by omega)
          rw [e0]
          exact OK.mk (e_great (fun k hk => by rw [hso]; exact hp k hk) 22 20 (by omega) (by omega)) h
    · rw [f, if_pos z00]
      rcases f1 with f1 | f1
      · rw [if_pos f1]; exact OK.no (h.refuse m2 (by omega) (by omega))
      · have f2 := i_lt f1
        rw [q_1] at f2
        rw [if_neg (fun q => by have := i_lt q; rw [q_0] at this; omega), if_neg (fun q => by have := i_le q; rw [q_1] at this; omega)]
        exact OK.no (h.refuse m2 (by omega) (by omega))
  · rw [e, if_neg n40, if_neg a]
    exact OK.no (h.refuse m4 (by omega) (by omega))
  · rw [e, if_neg n60, if_pos a, if_neg b]
    exact OK.no (h.refuse m6 (by omega) (by omega))
