/-! how quick to pitch -/
theorem bad_all : ∀ s, s ≤ 20 → ∀ d, d ≤ 8 → 0 ≤ ((ii s * ii d) / 9).toInt ∧ ((ii s * ii d) / 9).toInt ≤ 20 := by decide +kernel
theorem e_layBadly {n : Nat} (hn : n ≤ 12) (x : Int32) : ∀ m k v, v 6 0 = ii n → k ≤ n → n - k < m → (∀ q, q ≠ 4 → sX4_layBadly_2 x m (ii k) v q = v q) ∧ ∀ j, sX4_layBadly_2 x m (ii k) v 4 j = if k ≤ j ∧ j < n then sX7_atLeast0 (v 4 j - 4 * ((v 1 j * x) / 9)) else v 4 j := by
  intro m
  induction m with
  | zero => intro k v _ _ h; omega
  | succ m ih =>
    intro k v h6 hk hm
    rw [sX4_layBadly_2, h6, ifle (by omega) (by omega)]
    by_cases d : n ≤ k
    · rw [if_pos d]
      exact ⟨fun _ _ => rfl, fun j => by rw [if_neg (by omega)]⟩
    · rw [if_neg d, ii_n (by omega), ii_s, ← al_max]
      simp only [bns]
      obtain ⟨g1, g2⟩ := ih (k + 1) (st v 4 k (sX7_atLeast0 (v 4 k - 4 * ((v 1 k * x) / 9)))) (by rw [st_o (by decide)]; exact h6) (by omega) (by omega)
      refine ⟨fun q hq => by rw [g1 q hq, st_o hq], fun j => ?_⟩
      rw [g2 j, st_s, st_o (show ¬ 1 = 4 by decide)]
      unfold upd
      by_cases f : j = k
      · subst f; rw [if_neg (by omega), if_pos rfl, if_pos (by omega)]
      · by_cases g : k + 1 ≤ j ∧ j < n
        · rw [if_pos g, if_neg f, if_pos (by omega)]
        · rw [if_neg g, if_neg f, if_neg (by omega)]
theorem WR.badly {n : Nat} {c : Nat → Nat} {a w u : Nat → Nat → Int32} (h : WR n c a w) (h0 : ∀ j, j < n → w 6 j = 0) {x : Int32} (hx : rg x 0 8) (hu : ∀ q, 1 ≤ q → q ≤ 11 → q ≠ 6 → u q = w q) (h6 : ∀ j, j < n → u 6 j = (w 3 j * x) / 9) : WR n c (sX4_layBadly a x) u := by
  have hn := h.n
  obtain ⟨d, d1, rfl⟩ := rg_ii (m := 8) hx (by omega)
  obtain ⟨b1, b2⟩ := e_layBadly hn (ii d) 13 0 a h.a6 (by omega) (by omega)
  show WR n c (sX4_layBadly_2 (ii d) 13 (ii 0) a) u
  have ewt : wt u = wt w := by funext k; unfold wt; rw [hu 2 (by omega) (by omega) (by omega), hu 3 (by omega) (by omega) (by omega)]
  refine ⟨hn, by rw [b1 6 (by decide)]; exact h.a6, by rw [hu 11 (by omega) (by omega) (by omega)]; exact h.w11, fun j hj => ?_, fun i hi => ?_, fun j hj => ?_, ?_, ?_, ?_, ?_⟩
  · obtain ⟨g0, g1, g2, g3, g4, g5⟩ := h.L hj
    unfold LR
    rw [ewt, b1 0 (by decide), b1 1 (by decide), b1 2 (by decide), b1 3 (by decide), b1 5 (by decide), b2 j, if_pos (by omega), h6 j hj, hu 2 (by omega) (by omega) (by omega), hu 3 (by omega) (by omega) (by omega), hu 4 (by omega) (by omega) (by omega), hu 5 (by omega) (by omega) (by omega), g4.1, h0 j hj, bdg_0 g0.2 g1.2, g1.1]
    refine ⟨g0, ⟨rfl, g1.2⟩, g2, g3, ⟨rfl, ?_⟩, g5⟩
    obtain ⟨s1, s2⟩ := g1.2
    have e := ii_of (x := w 3 j) (by omega)
    rw [e]
    exact bad_all _ (by omega) d d1
  · have y := h.Y hi
    unfold YR at y ⊢
    rw [b1 _ (by omega), b1 _ (by omega), b1 _ (by omega), b1 _ (by omega), hu 7 (by omega) (by omega) (by omega), hu 8 (by omega) (by omega) (by omega), hu 9 (by omega) (by omega) (by omega), hu 10 (by omega) (by omega) (by omega)]
    exact y
  · rw [b1 7 (by decide), hu 1 (by omega) (by omega) (by omega)]; exact h.S hj
  · rw [hu 1 (by omega) (by omega) (by omega)]; exact h.s0
  · rw [hu 1 (by omega) (by omega) (by omega)]; exact h.s1
  · rw [hu 1 (by omega) (by omega) (by omega)]; exact h.s2
  · rw [hu 1 (by omega) (by omega) (by omega)]; exact h.s3
theorem e_pitched8 {n : Nat} (hn : n ≤ 12) (a1 x : Int32) : ∀ m k U, U 11 0 = ii n → k ≤ n → n - k < m → ¬ x ≤ U 1 1 → ∃ F, sX7_holdsPitched_8 a1 x m (ii k) U = ((sX7_doesHold F a1).1, sX7_passesAll (sX7_doesHold F a1).2 1 0) ∧ (∀ q, q ≠ 6 → F q = U q) ∧ ∀ j, F 6 j = if k ≤ j ∧ j < n then (U 3 j * (x - U 1 1)) / 9 else U 6 j := by
  intro m
  induction m with
  | zero => intro k v _ _ h; omega
  | succ m ih =>
    intro k U h11 hk hm hx
    rw [sX7_holdsPitched_8, h11, ifle (by omega) (by omega)]
    by_cases d : n ≤ k
    · rw [if_pos d]
      exact ⟨U, rfl, fun _ _ => rfl, fun j => by rw [if_neg (by omega)]⟩
    · rw [if_neg d, if_neg hx, ii_n (by omega), ii_s]
      simp only [bns]
      obtain ⟨F, g0, g1, g2⟩ := ih (k + 1) (st U 6 k ((U 3 k * (x - U 1 1)) / 9)) (by rw [st_o (by decide)]; exact h11) (by omega) (by omega) (by rw [st_o (by decide)]; exact hx)
      refine ⟨F, g0, fun q hq => by rw [g1 q hq, st_o hq], fun j => ?_⟩
      rw [g2 j, st_s, st_o (show ¬ 3 = 6 by decide), st_o (show ¬ 1 = 6 by decide)]
      unfold upd
      by_cases f : j = k
      · subst f; rw [if_neg (by omega), if_pos rfl, if_pos (by omega)]
      · by_cases g : k + 1 ≤ j ∧ j < n
        · rw [if_pos g, if_pos (by omega)]
        · rw [if_neg g, if_neg f, if_neg (by omega)]
theorem e_pitched0 {n : Nat} (hn : n ≤ 12) (a1 x : Int32) (m : Nat) (U : Nat → Nat → Int32) (h11 : U 11 0 = ii n) (hx : x ≤ U 1 1) : sX7_holdsPitched_8 a1 x (m + 1) (ii 0) U = ((sX7_doesHold U a1).1, sX7_passesAll (sX7_doesHold U a1).2 1 0) := by
  rw [sX7_holdsPitched_8, h11, ifle (by omega) (by omega), if_pos hx]
  simp only [bns, bnd]
  rw [if_same']
theorem WR.pitched {n : Nat} {c : Nat → Nat} {a w : Nat → Nat → Int32} (h : WR n c a w) (h0 : ∀ j, j < 12 → w 6 j = 0) {i : Nat} (hi : i < 2) {x : Int32} (hx : rg x 1 9) : (sX7_holdsPitched w (ii i) x).1 = sX4_holds (sX4_layBadly a (if 0 < x - w 1 1 then x - w 1 1 else 0)) (ii i) ∧ SQ (sX7_holdsPitched w (ii i) x).2 w := by
  have hn := h.n
  obtain ⟨x1, x2⟩ := hx
  obtain ⟨s1, s2⟩ := h.s1
  have hk : ∀ q, q ≠ 19 → q ≠ 21 → q ≠ 22 → sX7_passesAll w 1 1 q = w q := fun q a b d => iX7_save q a b d
  have k11 : sX7_passesAll w 1 1 11 0 = ii n := by rw [hk 11 (by decide) (by decide) (by decide)]; exact h.w11
  have k1 : sX7_passesAll w 1 1 1 = w 1 := hk 1 (by decide) (by decide) (by decide)
  have ed := i_sub (a := x) (b := w 1 1) (by omega) (by omega)
  have main : ∀ F, sX7_holdsPitched_8 (ii i) x 13 (ii 0) (sX7_passesAll w 1 1) = ((sX7_doesHold F (ii i)).1, sX7_passesAll (sX7_doesHold F (ii i)).2 1 0) → (∀ q, q ≠ 6 → F q = sX7_passesAll w 1 1 q) → (∀ j, n ≤ j → F 6 j = w 6 j) → (∀ j, j < n → F 6 j = (w 3 j * (if 0 < x - w 1 1 then x - w 1 1 else 0)) / 9) → (sX7_holdsPitched w (ii i) x).1 = sX4_holds (sX4_layBadly a (if 0 < x - w 1 1 then x - w 1 1 else 0)) (ii i) ∧ SQ (sX7_holdsPitched w (ii i) x).2 w := by
    intro F g0 g1 g2 g3
    have e : sX7_holdsPitched w (ii i) x = ((sX7_doesHold F (ii i)).1, sX7_passesAll (sX7_doesHold F (ii i)).2 1 0) := by
      unfold sX7_holdsPitched
      simp only [bns]
      exact g0
    have hd : rg (if 0 < x - w 1 1 then x - w 1 1 else 0) 0 8 := by
      split
      · rename_i z; have := i_lt z; rw [q_0] at this; exact ⟨by omega, by omega⟩
      · exact ⟨by rw [q_0]; omega, by rw [q_0]; omega⟩
    have hF : WR n c (sX4_layBadly a (if 0 < x - w 1 1 then x - w 1 1 else 0)) F := h.badly (fun j hj => h0 j (by omega)) hd (fun q a b d => by rw [g1 q d, hk q (by omega) (by omega) (by omega)]) g3
    obtain ⟨f1, f2⟩ := hF.doesHold hi
    rw [e]
    refine ⟨f1, e_back1 (by rw [f2 19 (by decide) (by decide), g1 19 (by decide)]) (fun q a b j hj => ?_) (fun j hj => by rw [f2 11 (by decide) (by decide), g1 11 (by decide), hk 11 (by decide) (by decide) (by decide)]) (fun q a b d e y z _ => by rw [f2 q y z, g1 q (by omega), hk q b d e])⟩
    rw [f2 q (by omega) (by omega)]
    by_cases f : q = 6
    · subst f
      have : lnr 6 = 12 := rfl
      exact g2 j (by omega)
    · rw [g1 q f, hk q (by omega) (by omega) (by omega)]
  by_cases d : x ≤ w 1 1
  · have dx := i_le d
    refine main (sX7_passesAll w 1 1) (e_pitched0 hn (ii i) x 12 _ k11 (by rw [k1]; exact d)) (fun _ _ => rfl) (fun j _ => by rw [hk 6 (by decide) (by decide) (by decide)]) (fun j hj => ?_)
    rw [hk 6 (by decide) (by decide) (by decide), h0 j (by omega), if_neg (fun q => by have := i_lt q; rw [q_0] at this; omega), Int32.mul_zero]
    decide
  · have dx := i_nle d
    obtain ⟨F, g0, g1, g2⟩ := e_pitched8 hn (ii i) x 13 0 (sX7_passesAll w 1 1) k11 (by omega) (by omega) (by rw [k1]; exact d)
    refine main F g0 g1 (fun j hj => by rw [g2 j, if_neg (by omega), hk 6 (by decide) (by decide) (by decide)]) (fun j hj => ?_)
    rw [g2 j, if_pos (by omega), hk 3 (by decide) (by decide) (by decide), k1, if_pos (Int32.lt_iff_toInt_lt.mpr (by rw [q_0]; omega))]
theorem e_quick {W : Nat → Nat → Nat → Int32} {w : Nat → Nat → Int32} {n : Nat} {c : Nat → Nat} (h : WR n c (W 0) w) (h0 : ∀ j, j < 12 → w 6 j = 0) {i : Nat} (hi : i < 2) : ∀ (m : Nat) (x f y : Int32) (V : Nat → Nat → Nat → Int32) (U : Nat → Nat → Int32), 1 ≤ y.toInt → y.toInt ≤ 10 → 10 - y.toInt < m → T1 V W → SQ U w → ((x = -9 ∧ f = 2147483647) ∨ (rg x 1 9 ∧ f = sX7_pitchMinutes w x)) → (sX6_quick_30 (ii i) m x f y V).1 = (sX7_quick_18 (ii i) m x y U).1 ∧ T1 (sX6_quick_30 (ii i) m x f y V).2 W ∧ SQ (sX7_quick_18 (ii i) m x y U).2 w := by
  have e9 : mostS 2 = 9 := rfl
  intro m
  induction m with
  | zero => intro x f y V U h1 h2 h3; omega
  | succ m ih =>
    intro x f y V U h1 h2 h3 hT hS hxf
    rw [sX6_quick_30, sX7_quick_18, e9]
    by_cases d : 9 < y
    · have := i_lt d
      rw [q_9] at this
      rw [if_pos d, if_pos (Int32.le_iff_toInt_le.mpr (by rw [q_10]; omega))]
      exact ⟨rfl, hT, hS⟩
    · have d1 := i_nlt d
      rw [q_9] at d1
      rw [if_neg d, if_neg (fun q => by have := i_le q; rw [q_10] at this; omega)]
      simp only [bns, bnd]
      have hy : rg y 1 9 := ⟨h1, d1⟩
      have hb : WR n c (sX4_become (V 1) (V 0)) w := by rw [hT 0 (by decide)]; exact h.become _
      have hU := SQ.wr hb hS
      have hU0 : ∀ j, j < 12 → U 6 j = 0 := fun j hj => by rw [hS.1 6 (by decide) (by decide) (by decide) (by decide) (by decide) (by decide) (by decide) (by decide) (by decide) (by decide)]; exact h0 j hj
      obtain ⟨p1, p2⟩ := hU.pitched hU0 hi hy
      have u1 : U 1 = w 1 := hS.1 1 (by decide) (by decide) (by decide) (by decide) (by decide) (by decide) (by decide) (by decide) (by decide) (by decide)
      have hS2 := p2.tr hS
      have hw2 := SQ.wr h hS2
      have epm : ∀ z : Int32, 1 ≤ z.toInt → sX7_pitchMinutes (sX7_holdsPitched U (ii i) y).2 z = sX7_pitchMinutes w z := fun z hz => by
        rw [← hw2.pitch hz, ← h.pitch hz]
      have v0 : sc (sc V 1 (sX4_become (V 1) (V 0))) 1 (sX4_layBadly (sX4_become (V 1) (V 0)) (if 0 < y - V 0 7 1 then y - V 0 7 1 else 0)) 0 = W 0 := by rw [sc_o (by decide), sc_o (by decide), hT 0 (by decide)]
      have v1 : sc V 1 (sX4_become (V 1) (V 0)) 0 = V 0 := sc_o (by decide)
      have e71 : V 0 7 1 = U 1 1 := by rw [hT 0 (by decide), h.S (by omega), u1]
      rw [sc_s, v1, v0, sc_s, h.pitch hy.1, e71, ← p1]
      have e := i_addr (a := y) (b := 1) q_1 (by omega) (by omega)
      have pb := h.pitch_b hy
      have hT2 := (hT.sc (sX4_become (V 1) (V 0))).sc (sX4_layBadly (sX4_become (V 1) (V 0)) (if 0 < y - U 1 1 then y - U 1 1 else 0))
      have take : Or (y = -9 ∧ sX7_pitchMinutes w y = 2147483647) (rg y 1 9 ∧ sX7_pitchMinutes w y = sX7_pitchMinutes w y) := Or.inr ⟨hy, rfl⟩
      rcases hxf with ⟨rfl, rfl⟩ | ⟨hx, rfl⟩
      · rw [if_neg (fun q => by have := i_le q; rw [q_2147483647] at this; omega), if_pos (show (-9 : Int32) < 0 by decide)]
        by_cases g : (sX7_holdsPitched U (ii i) y).1 = 0
        · rw [if_pos g, if_pos g]
          exact ih _ _ _ _ _ (by omega) (by omega) (by omega) hT2 hS2 (Or.inl ⟨rfl, rfl⟩)
        · rw [if_neg g, if_neg g]
          exact ih _ _ _ _ _ (by omega) (by omega) (by omega) hT2 hS2 take
      · rw [if_neg (show ¬ x < 0 from fun q => by have := i_lt q; rw [q_0] at this; have := hx.1; omega), epm x hx.1, epm y hy.1]
        by_cases g : (sX7_holdsPitched U (ii i) y).1 = 0
        · rw [if_pos g, if_pos g, if_same']
          exact ih _ _ _ _ _ (by omega) (by omega) (by omega) hT2 hS2 (Or.inr ⟨hx, rfl⟩)
        · rw [if_neg g, if_neg g]
          by_cases k : sX7_pitchMinutes w x ≤ sX7_pitchMinutes w y
          · rw [if_pos k, if_pos k]
            exact ih _ _ _ _ _ (by omega) (by omega) (by omega) hT2 hS2 (Or.inr ⟨hx, rfl⟩)
          · rw [if_neg k, if_neg k]
            exact ih _ _ _ _ _ (by omega) (by omega) (by omega) hT2 hS2 take
theorem S_quick {W : Nat → Nat → Nat → Int32} {w : Nat → Nat → Int32} (h : REL W w) (x : Int32) : OK (sX6_quick W x) (sX7_quick w x) := by
  obtain ⟨⟨n, c, gW⟩, gF, gL, gR, gI, gS⟩ := id h
  unfold sX6_quick sX7_quick
  rcases way_c (W 0) x with ⟨i, hi, rfl, e1, e2⟩ | ⟨e1, e2⟩
  · rw [e1, e2, if_neg n10, if_neg n10]
    obtain ⟨a1, a2, a3⟩ := e_quick gW.2.1 gW.2.2 hi 10 (-9) 2147483647 1 W w (by rw [q_1]; omega) (by rw [q_1]; omega) (by rw [q_1]; omega) (T1.rf W) (SQ.rf w) (Or.inl ⟨rfl, rfl⟩)
    exact ⟨a1, h.t1 a3 a2⟩
  · rw [e1, e2, if_pos z00, if_pos z00]
    exact OK.no (h.refuse m1 (by omega) (by omega))
