/-! which layer it was -/
theorem WR.lack {n : Nat} {c : Nat → Nat} {a w : Nat → Nat → Int32} (h : WR n c a w) {i p k : Nat} (hi : i < 2) (hp : p < c i) (hk : k < n) : (sX4_shiftOf a (ii i) (ii p) (ii k) - sX4_strengthOf a (ii k)).toInt = -(sX7_spare w (ii (6 * i + p)) (ii k)).toInt ∧ -900000000 ≤ (sX7_spare w (ii (6 * i + p)) (ii k)).toInt ∧ (sX7_spare w (ii (6 * i + p)) (ii k)).toInt ≤ 900000000 := by
  have h1 := (h.strength hk).2
  have h2 := shift_b w (ii (6 * i + p)) (ii k)
  rw [← h.shift hi hp hk] at h2
  have h3 := (h.spare hi hp hk).2
  have h4 := i_sub (a := sX4_shiftOf a (ii i) (ii p) (ii k)) (b := sX4_strengthOf a (ii k)) (by omega) (by omega)
  omega
theorem e_whoseA {W : Nat → Nat → Nat → Int32} {n i p : Nat} (h6 : W 0 6 0 = ii n) (hn : n ≤ 12) : ∀ (m k : Nat) (x y : Int32), k ≤ n → n - k < m → (∀ j, k ≤ j → j < n → SP (W 0) i p j = false) → sX6_whose_28 W (ii i) (ii p) m x y (ii k) = (x, W) := by
  intro m
  induction m with
  | zero => intro k x y _ h; omega
  | succ m ih =>
    intro k x y hk hm hS
    rw [sX6_whose_28, h6, ifle (by omega) (by omega)]
    by_cases d : n ≤ k
    · rw [if_pos d]
    · rw [if_neg d, if_pos (SP_f.mp (hS k (by omega) (by omega))), ii_s]
      exact ih (k + 1) x y (by omega) (by omega) (fun j a b => hS j (by omega) b)
theorem e_whoseB {W : Nat → Nat → Nat → Int32} {w : Nat → Nat → Int32} {n i p : Nat} {c : Nat → Nat} (h : WR n c (W 0) w) (hi : i < 2) (hp : p < c i) {d : Nat} (hd : d < n) (hS : ∀ j, j < n → SP (W 0) i p j = decide (j = d)) : ∀ (m k : Nat), k ≤ d → n - k < m → sX6_whose_28 W (ii i) (ii p) m (-9) 2147483647 (ii k) = (ii d, W) := by
  have hn := h.n
  intro m
  induction m with
  | zero => intro k _ h; omega
  | succ m ih =>
    intro k hk hm
    rw [sX6_whose_28, h.a6, ifle (by omega) (by omega), if_neg (show ¬ n ≤ k by omega), ii_s]
    by_cases e : k = d
    · subst e
      have g := h.lack hi hp hd
      have hsp : ¬ sX4_slipsAt (W 0) (ii i) (ii p) (ii k) = 0 := SP_t.mp (by rw [hS k hd]; simp)
      rw [if_neg hsp, if_neg (fun q => by have := i_le q; rw [q_2147483647] at this; omega)]
      exact e_whoseA h.a6 hn m (k + 1) _ _ (by omega) (by omega) (fun j a b => by rw [hS j b]; simp; omega)
    · have hsp : sX4_slipsAt (W 0) (ii i) (ii p) (ii k) = 0 := SP_f.mp (by rw [hS k (by omega)]; simp [e])
      rw [if_pos hsp]
      exact ih (k + 1) (by omega) (by omega)
theorem e_whoseC {W : Nat → Nat → Nat → Int32} {w : Nat → Nat → Int32} {n i p : Nat} {c : Nat → Nat} (h : WR n c (W 0) w) (hi : i < 2) (hp : p < c i) {z : Nat} (hz : z ≤ 3) (ha : W 0 (10 + 4 * i) p = ii z) : ∀ (m k : Nat) (x y : Int32), k ≤ n → n - k < m → ((x = -9 ∧ y = 2147483647) ∨ ∃ b, b < n ∧ x = ii b ∧ y = sX4_shiftOf (W 0) (ii i) (ii p) (ii b) - sX4_strengthOf (W 0) (ii b)) → (sX6_whose_28 W (ii i) (ii p) m x y (ii k)).1 = (sX7_whose_43 w (ii i) (ii p) m x (ii k)).1 ∧ (sX6_whose_28 W (ii i) (ii p) m x y (ii k)).2 = W ∧ (sX7_whose_43 w (ii i) (ii p) m x (ii k)).2 = w := by
  have hn := h.n
  intro m
  induction m with
  | zero => intro k x y _ h; omega
  | succ m ih =>
    intro k x y hk hm hxy
    rw [sX6_whose_28, sX7_whose_43, h.a6, h.w11, ifle (by omega) (by omega), ifle (by omega) (by omega), ii_s, q6p]
    by_cases d : n ≤ k
    · rw [if_pos d, if_pos d]; exact ⟨rfl, rfl, rfl⟩
    · have hs := h.slips hi hp (k := k) (by omega) hz ha
      have g := h.lack hi hp (k := k) (by omega)
      rw [if_neg d, if_neg d]
      by_cases s : sX4_slipsAt (W 0) (ii i) (ii p) (ii k) = 0
      · have s2 : (0 : Int32) ≤ sX7_spare w (ii (6 * i + p)) (ii k) := by
          have s3 := SP_f.mpr s
          refine Classical.byContradiction fun q => ?_
          rw [hs.mpr q] at s3
          cases s3
        rw [if_pos s, if_pos s2]
        exact ih (k + 1) x y (by omega) (by omega) hxy
      · have s2 := hs.mp (SP_t.mpr s)
        rw [if_neg s, if_neg s2]
        rcases hxy with ⟨rfl, rfl⟩ | ⟨b, hb, rfl, rfl⟩
        · rw [if_neg (fun q => by have := i_le q; rw [q_2147483647] at this; omega), if_pos (show (-9 : Int32) < 0 by decide)]
          exact ih (k + 1) _ _ (by omega) (by omega) (Or.inr ⟨k, by omega, rfl, rfl⟩)
        · have g2 := h.lack hi hp hb
          rw [if_neg (ii_nn (by omega))]
          by_cases f : sX7_spare w (ii (6 * i + p)) (ii k) ≤ sX7_spare w (ii (6 * i + p)) (ii b)
          · have f1 := i_le f
            rw [if_pos f, if_pos (Int32.le_iff_toInt_le.mpr (by omega))]
            exact ih (k + 1) _ _ (by omega) (by omega) (Or.inr ⟨b, hb, rfl, rfl⟩)
          · have f1 := i_nle f
            rw [if_neg f, if_neg (fun q => by have := i_le q; omega)]
            exact ih (k + 1) _ _ (by omega) (by omega) (Or.inr ⟨k, by omega, rfl, rfl⟩)
theorem OK.of {p : Int32 × (Nat → Nat → Nat → Int32)} {q : Int32 × (Nat → Nat → Int32)} {W : Nat → Nat → Nat → Int32} {w : Nat → Nat → Int32} (h : p.1 = q.1) (h2 : p.2 = W) (h3 : q.2 = w) (hR : REL W w) : OK p q := ⟨h, by rw [h2, h3]; exact hR⟩
theorem S_whose {W : Nat → Nat → Nat → Int32} {w : Nat → Nat → Int32} (h : REL W w) (x y : Int32) : OK (sX6_whose W x y) (sX7_whose w x y) := by
  obtain ⟨⟨n, c, gW⟩, gF, gL, gR, gI, gS⟩ := id h
  have hn := gW.1
  unfold sX6_whose sX7_whose
  rcases piece_c gW.2.1 x y with ⟨i, p, hi, hp, rfl, rfl, e1, e2⟩ | ⟨e1, e2⟩
  · have hc := (gW.2.1.Y hi).1
    obtain ⟨z, z1, z2, z3⟩ := e_kind gW.2.1 hi hp
    rw [e1, e2, if_neg n10, if_neg n10, q6p, e_isShift (by omega) (by omega) z3]
    by_cases h4 : 4 ≤ z
    · rw [if_pos h4, if_pos z00]
      rcases gW.2.1.caught hi hp z1 z2 z3 h4 with ⟨c1, c2⟩ | ⟨d, d1, d2, d3⟩
      · have e := e_whoseA gW.2.1.a6 (by omega) 13 0 (-9) 2147483647 (by omega) (by omega) (fun j _ b => c2 j b)
        have e' : sX6_whose_28 W (ii i) (ii p) 13 (-9) 2147483647 0 = (-9, W) := e
        rw [e', c1]
        exact OK.mk rfl h
      · have e := e_whoseB gW.2.1 hi hp d1 d3 13 0 (by omega) (by omega)
        have e' : sX6_whose_28 W (ii i) (ii p) 13 (-9) 2147483647 0 = (ii d, W) := e
        rw [e', d2]
        exact OK.mk rfl h
    · rw [if_neg h4, if_neg n10]
      obtain ⟨a1, a2, a3⟩ := e_whoseC gW.2.1 hi hp (z := z) (by omega) z2 13 0 (-9) 2147483647 (by omega) (by omega) (Or.inl ⟨rfl, rfl⟩)
      exact OK.of a1 a2 a3 h
  · rw [e1, e2, if_pos z00, if_pos z00]
    exact OK.no (h.refuse m1 (by omega) (by omega))
/-! rounds and worth -/
theorem SQ.of25 {u w : Nat → Nat → Int32} (h : ∀ q, q ≠ 25 → u q = w q) : SQ u w := ⟨fun q _ _ _ _ _ _ _ _ e _ => h q e, fun j _ => by rw [h 19 (by decide)]⟩
theorem AC.of9 {n : Nat} {c : Nat → Nat} {b a : Nat → Nat → Int32} (h : ∀ q, q ≠ 9 → b q = a q) : AC n c b a := ⟨fun q hq j _ => by rw [h q (by omega)], by rw [h 6 (by decide)], fun j _ => by rw [h 7 (by decide)], fun i hi => ⟨by rw [h _ (by omega)], fun j _ => ⟨by rw [h _ (by omega)], by rw [h _ (by omega)], by rw [h _ (by omega)]⟩⟩⟩
theorem REL.w0 {W V : Nat → Nat → Nat → Int32} {w : Nat → Nat → Int32} (h : REL W w) (h0 : ∀ n c, AC n c (V 0) (W 0)) (hV : ∀ k, k ≠ 0 → k ≠ 1 → V k = W k) : REL V w := by
  obtain ⟨⟨n, c, g1, g2, g3⟩, gF, gL, gR, gI, gS⟩ := h
  exact ⟨⟨n, c, g1, g2.keepC (h0 n c), g3⟩, gF.keep (hV 5 (by decide) (by decide)) rfl, gL.keep (hV 3 (by decide) (by decide)) rfl rfl, gR.keep (hV 4 (by decide) (by decide)) rfl rfl, gI.keep (hV 2 (by decide) (by decide)) (by rw [hV 5 (by decide) (by decide)]) (fun _ _ => rfl) rfl, gS⟩
theorem e_refR {W : Nat → Nat → Nat → Int32} {w : Nat → Nat → Int32} {n : Nat} {c : Nat → Nat} (h : WR n c (W 0) w) (x y z v : Int32) (hv : rg v 3 4) : sX6_refusalOfRounds W x y z v = (sX7_notRounds w x y z v).1 ∧ (∀ q, q ≠ 23 → q ≠ 24 → (sX7_notRounds w x y z v).2 q = w q) ∧ (((sX7_notRounds w x y z v).1 = 0 ∧ ∃ i b t : Nat, i < 2 ∧ 1 ≤ b ∧ (b : Int) ≤ v.toInt ∧ t ≤ 999 ∧ 1 ≤ n ∧ x = ii i ∧ y = ii b ∧ z = ii t) ∨ ∃ k, 1 ≤ k ∧ k ≤ 6 ∧ -(sX7_notRounds w x y z v).1 = ii k ∧ ¬ (sX7_notRounds w x y z v).1 = 0) := by
  have hn := h.n
  obtain ⟨v1, v2⟩ := hv
  have r3 : ∀ q, q ≠ 23 → q ≠ 24 → w q = w q := fun _ _ _ => rfl
  have k1 : ∃ k, 1 ≤ k ∧ k ≤ 6 ∧ -(-1 : Int32) = ii k ∧ ¬ (-1 : Int32) = 0 := ⟨1, by omega, by omega, m1, by decide⟩
  have k3 : ∃ k, 1 ≤ k ∧ k ≤ 6 ∧ -(-3 : Int32) = ii k ∧ ¬ (-3 : Int32) = 0 := ⟨3, by omega, by omega, m3, by decide⟩
  have k4 : ∃ k, 1 ≤ k ∧ k ≤ 6 ∧ -(-4 : Int32) = ii k ∧ ¬ (-4 : Int32) = 0 := ⟨4, by omega, by omega, m4, by decide⟩
  have k6 : ∃ k, 1 ≤ k ∧ k ≤ 6 ∧ -(-6 : Int32) = ii k ∧ ¬ (-6 : Int32) = 0 := ⟨6, by omega, by omega, m6, by decide⟩
  unfold sX6_refusalOfRounds sX7_notRounds
  rcases way_c (W 0) x with ⟨i, hi, rfl, e1, e2⟩ | ⟨e1, e2⟩
  · rw [e1, e2, if_neg n10, if_neg n10]
    by_cases a : y < 1
    · rw [if_pos a, if_pos a]; exact ⟨rfl, r3, Or.inr k4⟩
    · rw [if_neg a, if_neg a]
      by_cases b : (0 : Int32) ≤ z
      · rw [if_pos b, if_pos b]
        by_cases d : v < y
        · rw [if_pos d, if_pos d]; exact ⟨rfl, r3, Or.inr k6⟩
        · rw [if_neg d, if_neg d]
          by_cases e : z ≤ 999
          · rw [if_pos e, if_pos e, h.a6, h.w11]
            by_cases f : ii n = 0
            · rw [if_pos f, if_pos f]; exact ⟨rfl, r3, Or.inr k3⟩
            · rw [if_neg f, if_neg f]
              obtain ⟨g1, g2⟩ := h.doesHold hi
              simp only [bnd]
              rw [g1]
              by_cases g : sX4_holds (W 0) (ii i) = 0
              · rw [if_pos g, if_pos g]; exact ⟨rfl, g2, Or.inr k3⟩
              · rw [if_neg g, if_neg g]
                have a1 := i_nlt a
                have b1 := i_le b
                have d1 := i_nlt d
                have e1 := i_le e
                rw [q_1] at a1
                rw [q_0] at b1
                rw [q_999] at e1
                exact ⟨rfl, g2, Or.inl ⟨rfl, i, y.toInt.toNat, z.toInt.toNat, hi, by omega, by omega, by omega, by
                  refine Classical.byContradiction fun q => f ((ii_0 (by omega)).mpr (by omega)), rfl, ii_of (by omega), ii_of (by omega)⟩⟩
          · rw [if_neg e, if_neg e]; exact ⟨rfl, r3, Or.inr k6⟩
      · rw [if_neg b, if_neg b]; exact ⟨rfl, r3, Or.inr k4⟩
  · rw [e1, e2, if_pos z00, if_pos z00]; exact ⟨rfl, r3, Or.inr k1⟩
theorem S_rounds {W : Nat → Nat → Nat → Int32} {w : Nat → Nat → Int32} (h : REL W w) (x y z : Int32) : OK (sX6_rounds W x y z) (sX7_rounds w x y z) := by
  obtain ⟨⟨n, c, gW⟩, gF, gL, gR, gI, gS⟩ := id h
  obtain ⟨e1, e2, e3⟩ := e_refR gW.2.1 x y z 4 ⟨by decide, by decide⟩
  have hR := h.sq (SQ.find e2) rfl rfl rfl rfl rfl
  have hW := gW.2.1.keep (u := (sX7_notRounds w x y z 4).2) (fun q a b => e2 q (by omega) (by omega))
  unfold sX6_rounds sX7_rounds
  simp only [bnd, bns]
  rw [e1]
  rcases e3 with ⟨e0, i, b, t, hi, hb1, hb, ht, hn1, rfl, rfl, rfl⟩ | ⟨k, k1, k2, k3, k4⟩
  · rw [e0, if_pos z00, if_pos z00]
    rw [q_4] at hb
    obtain ⟨s1, s2, s3⟩ := hW.sheavesHome hn1 hi (by omega) hb1 ht
    refine OK.mk s1 ?_
    refine (hR.sq (SQ.of25 s3) rfl rfl rfl rfl rfl).w0 (fun n c => ?_) (fun k a b => sc_o a)
    rw [sc_s]
    exact AC.of9 s2
  · rw [if_neg k4, if_neg k4]
    exact hR.refuse k3 k1 k2
theorem S_worth {W : Nat → Nat → Nat → Int32} {w : Nat → Nat → Int32} (h : REL W w) (x y z : Int32) : OK (sX6_worth W x y z) (sX7_worth w x y z) := by
  obtain ⟨⟨n, c, gW⟩, gF, gL, gR, gI, gS⟩ := id h
  obtain ⟨e1, e2, e3⟩ := e_refR gW.2.1 x y z 3 ⟨by decide, by decide⟩
  have hR := h.sq (SQ.find e2) rfl rfl rfl rfl rfl
  have hW := gW.2.1.keep (u := (sX7_notRounds w x y z 3).2) (fun q a b => e2 q (by omega) (by omega))
  unfold sX6_worth sX7_worth
  simp only [bnd, bns]
  rw [e1]
  rcases e3 with ⟨e0, i, b, t, hi, hb1, hb, ht, hn1, rfl, rfl, rfl⟩ | ⟨k, k1, k2, k3, k4⟩
  · rw [e0, if_pos z00, if_pos z00, ii_s]
    rw [q_3] at hb
    obtain ⟨s1, s2, s3⟩ := hW.sheavesHome hn1 hi (b := b + 1) (by omega) (by omega) ht
    have hW2 := (hW.keepC (b := (sX4_sheavesHome (W 0) (ii i) (ii (b + 1)) (ii t)).2) (AC.of9 s2)).keep (u := (sX7_homeSheaves (sX7_notRounds w (ii i) (ii b) (ii t) 3).2 (ii i) (ii (b + 1)) (ii t)).2) (fun q a b => s3 q (by omega))
    obtain ⟨r1, r2, r3⟩ := hW2.sheavesHome hn1 hi (b := b) (by omega) (by omega) ht
    rw [sc_s]
    refine OK.mk (by rw [s1, r1]) ?_
    refine (hR.sq ((SQ.of25 r3).tr (SQ.of25 s3)) rfl rfl rfl rfl rfl).w0 (fun n c => ?_) (fun k a b => by rw [sc_o a, sc_o a])
    rw [sc_s]
    exact AC.of9 (fun q hq => by rw [r2 q hq, s2 q hq])
  · rw [if_neg k4, if_neg k4]
    have e := hR.wide k3 k1 k2
    exact OK.mk e.1 e.2
/-! thunder -/
def OKL (p : Int64 × (Nat → Nat → Nat → Int32)) (q : Int64 × (Nat → Nat → Int32)) : Prop := p.1 = q.1 ∧ REL p.2 q.2
theorem OKL.mk {r s : Int64} {V : Nat → Nat → Nat → Int32} {u : Nat → Nat → Int32} (h1 : r = s) (h2 : REL V u) : OKL (r, V) (s, u) := ⟨h1, h2⟩
theorem OKL.no {p : Int64 × (Nat → Nat → Nat → Int32)} {q : Int64 × (Nat → Nat → Int32)} (h : OKL p q) : OKL (bnd p (fun r u => (r, u))) (bnd q (fun r u => (r, u))) := h
theorem REL.long {W : Nat → Nat → Nat → Int32} {w : Nat → Nat → Int32} (h : REL W w) {x : Int32} {k : Nat} (hx : -x = ii k) (h1 : 1 ≤ k) (h2 : k ≤ 6) : OKL (sX6_refuseLong W x) (sX7_lowest w x) := by
  unfold sX6_refuseLong sX7_lowest bnd bns
  rw [e_refuse hx h1 h2, hx, ii_n (by omega)]
  exact ⟨rfl, h.no h2⟩
theorem e_thunder {w : Nat → Nat → Int32} {a1 z : Int32} {t M : Nat} (hM : sX7_minutesOf w a1 = ii M) (hM2 : M ≤ 54) : ∀ m k, k ≤ min M 12 → min M 12 - k < m → sX7_thunder_59 w a1 (ii t) z m (pw ((10 - ii t).toInt64) k) (pw 10 k) (ii k) = if z = 0 then (pw ((10 - ii t).toInt64) (min M 12) / sX7_divisor (pw ((10 - ii t).toInt64) (min M 12)) (pw 10 (min M 12)), w) else (pw 10 (min M 12) / sX7_divisor (pw ((10 - ii t).toInt64) (min M 12)) (pw 10 (min M 12)), w) := by
  have e12 : (12 : Int32) = ii 12 := rfl
  intro m
  induction m with
  | zero => intro k _ h; omega
  | succ m ih =>
    intro k hk hm
    rw [sX7_thunder_59, hM, e12, ifle (by omega) (by omega), ifle (by omega) (by omega), ii_s]
    by_cases d : M ≤ k
    · rw [if_pos d, show min M 12 = k by omega]
    · rw [if_neg d]
      by_cases e : 12 ≤ k
      · rw [if_pos e, show min M 12 = k by omega]
      · rw [if_neg e]
        exact ih (k + 1) (by omega) (by omega)
theorem S_thunder {W : Nat → Nat → Nat → Int32} {w : Nat → Nat → Int32} (h : REL W w) (x y z : Int32) : OKL (sX6_thunder W x y z) (sX7_thunder w x y z) := by
  obtain ⟨⟨n, c, gW⟩, gF, gL, gR, gI, gS⟩ := id h
  unfold sX6_thunder sX7_thunder
  rcases way_c (W 0) x with ⟨i, hi, rfl, e1, e2⟩ | ⟨e1, e2⟩
  · rw [e1, e2, if_neg n10, if_neg n10]
    rcases bound_c y 0 9 with ⟨a, b, e⟩ | ⟨a, e⟩ | ⟨a, b, e⟩
    · rw [e, if_pos z00, if_pos a, if_pos b]
      rcases isIn_c z 0 1 with ⟨f1, f2, f⟩ | ⟨f1, f⟩
      · have a1 := i_le a
        have b1 := i_le b
        rw [q_0] at a1
        rw [q_9] at b1
        rw [f, if_neg n10, if_neg (fun q => by have := i_lt q; have := i_le f1; omega), if_pos f2]
        obtain ⟨mb1, mb2⟩ := gW.2.1.minutes_b hi
        obtain ⟨t, rfl⟩ : ∃ t, y = ii t := ⟨_, ii_of a1⟩
        have ht : t < 10 ∨ ¬ t < 10 := Classical.em _
        have hm := gW.2.1.minutes hi
        rw [ii_n (by omega), hm]
        obtain ⟨T, hT1, hT2⟩ : ∃ T, T < 10 ∧ ii t = ii T := ⟨(ii t).toInt.toNat, by omega, ii_of a1⟩
        rw [hT2]
        obtain ⟨M, hM⟩ : ∃ M, M = (sX7_minutesOf w (ii i)).toInt.toNat := ⟨_, rfl⟩
        have eM : sX7_minutesOf w (ii i) = ii M := by rw [hM]; exact ii_of mb1
        have hM2 : M ≤ 54 := by omega
        have e12 : (12 : Int32) = ii 12 := rfl
        have emin : (if sX7_minutesOf w (ii i) < 12 then sX7_minutesOf w (ii i) else 12) = ii (min M 12) := by
          rw [eM, e12]
          by_cases q : M < 12
          · rw [if_pos ((ii_lt (by omega) (by omega)).mpr q), show min M 12 = M by omega]
          · rw [if_neg (fun r => q ((ii_lt (by omega) (by omega)).mp r)), show min M 12 = 12 by omega]
        have eT := e_thunder (w := w) (a1 := ii i) (z := z) (t := T) eM hM2 13 0 (by omega) (by omega)
        have eT' : sX7_thunder_59 w (ii i) (ii T) z 13 1 1 0 = _ := eT
        rw [eT', emin]
        obtain ⟨p1, p2⟩ := pow_all T hT1 (min M 12) (by omega)
        by_cases g : z = 0
        · rw [if_pos g, if_pos g]; exact OKL.mk p1 h
        · rw [if_neg g, if_neg g]; exact OKL.mk p2 h
      · rw [f, if_pos z00]
        rcases f1 with f1 | f1
        · rw [if_pos f1]; exact OKL.no (h.long m2 (by omega) (by omega))
        · have f2 := i_lt f1
          rw [q_1] at f2
          rw [if_neg (fun q => by have := i_lt q; rw [q_0] at this; omega), if_neg (fun q => by have := i_le q; rw [q_1] at this; omega)]
          exact OKL.no (h.long m2 (by omega) (by omega))
    · rw [e, if_neg n40, if_neg a]
      exact OKL.no (h.long m4 (by omega) (by omega))
    · rw [e, if_neg n60, if_pos a, if_neg b]
      exact OKL.no (h.long m6 (by omega) (by omega))
  · rw [e1, e2, if_pos z00, if_pos z00]
    exact OKL.no (h.long m1 (by omega) (by omega))
