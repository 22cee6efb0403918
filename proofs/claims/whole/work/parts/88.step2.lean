theorem ls_all : leastS 0 = 0 ∧ leastS 1 = 1 ∧ leastS 2 = 1 ∧ leastS 3 = 0 ∧ mostS 0 = 5 ∧ mostS 1 = 9 ∧ mostS 2 = 9 ∧ mostS 3 = 999 := ⟨rfl, rfl, rfl, rfl, rfl, rfl, rfl, rfl⟩
theorem S_pitching {W : Nat → Nat → Nat → Int32} {w : Nat → Nat → Int32} (h : REL W w) (x : Int32) : OK (sX6_pitching W x) (sX7_pitching w x) := by
  obtain ⟨⟨n, c, gW⟩, gF, gL, gR, gI, gS⟩ := id h
  obtain ⟨-, -, e1, -, -, -, e2, -⟩ := ls_all
  unfold sX6_pitching sX7_pitching
  rw [e1, e2]
  rcases bound_c x 1 9 with ⟨a, b, e⟩ | ⟨a, e⟩ | ⟨a, b, e⟩
  · have := i_le a
    rw [q_1] at this
    rw [e, if_pos z00, if_pos a, if_pos b, gW.2.1.pitch this]
    exact OK.mk rfl h
  · rw [e, if_neg n40, if_neg a]
    exact OK.no (h.refuse m4 (by omega) (by omega))
  · rw [e, if_neg n60, if_pos a, if_neg b]
    exact OK.no (h.refuse m6 (by omega) (by omega))
/-! a layer comes off -/
theorem e_bear {n : Nat} (hn : n ≤ 12) (x : Int32) : ∀ m k v, v 6 0 = ii n → k ≤ n → n - k < m → (∀ q, q ≠ 5 → sX4_bear_2 x m (ii k) v q = v q) ∧ ∀ j, sX4_bear_2 x m (ii k) v 5 j = if k ≤ j ∧ j < n then v 5 j + x else v 5 j := by
  intro m
  induction m with
  | zero => intro k v _ _ h; omega
  | succ m ih =>
    intro k v h6 hk hm
    rw [sX4_bear_2, h6, ifle (by omega) (by omega)]
    by_cases d : n ≤ k
    · rw [if_pos d]
      exact ⟨fun _ _ => rfl, fun j => by rw [if_neg (by omega)]⟩
    · rw [if_neg d, ii_n (by omega), ii_s]
      simp only [bns]
      obtain ⟨g1, g2⟩ := ih (k + 1) (st v 5 k (v 5 k + x)) (by rw [st_o (by decide)]; exact h6) (by omega) (by omega)
      refine ⟨fun q hq => by rw [g1 q hq, st_o hq], fun j => ?_⟩
      rw [g2 j, st_s]
      unfold upd
      by_cases f : j = k
      · subst f; rw [if_neg (by omega), if_pos rfl, if_pos (by omega)]
      · by_cases g : k + 1 ≤ j ∧ j < n
        · rw [if_pos g, if_neg f, if_pos (by omega)]
        · rw [if_neg g, if_neg f, if_neg (by omega)]
theorem add_neg_c (x y : Int32) : x + y + -y = x := by rw [Int32.add_assoc, Int32.add_right_neg, Int32.add_zero]
theorem WR.takeTop {n : Nat} {c : Nat → Nat} {a w u : Nat → Nat → Int32} (h : WR n c a w) (h0 : 0 < n) (hu : ∀ q, 1 ≤ q → q ≤ 10 → u q = w q) (h11 : u 11 0 = ii (n - 1)) : (sX4_takeTop a).1 = 1 ∧ WR (n - 1) c (sX4_takeTop a).2 u := by
  have hn := h.n
  have e1 : (1 : Int32) = ii 1 := rfl
  obtain ⟨⟨l0, -⟩, ⟨l1, -⟩, -⟩ := h.L (j := n - 1) (by omega)
  have ew : sX4_weightOf a (ii (n - 1)) = wt w (n - 1) := by unfold sX4_weightOf wt; rw [ii_n (by omega), l0, l1]
  obtain ⟨b1, b2⟩ := e_bear hn (-(wt w (n - 1))) 13 0 a h.a6 (by omega) (by omega)
  have eT : sX4_takeTop a = (1, st (sX4_bear_2 (-(wt w (n - 1))) 13 (ii 0) a) 6 0 (ii (n - 1))) := by
    unfold sX4_takeTop sX4_bear
    rw [h.a6, if_neg (fun q => by have := (ii_0 (by omega)).mp q; omega), e1, ii_b (by omega), ew]
    simp only [bns]
    have e0 : (0 : Int32) = ii 0 := rfl
    rw [e0, b1 6 (by decide), h.a6, ii_b (by omega)]
  rw [eT]
  refine ⟨rfl, ?_⟩
  show WR (n - 1) c (st (sX4_bear_2 (-(wt w (n - 1))) 13 (ii 0) a) 6 0 (ii (n - 1))) u
  refine ⟨by omega, st_rd, h11, fun j hj => ?_, fun i hi => ?_, fun j hj => ?_, ?_, ?_, ?_, ?_⟩
  · have e := h.L (j := j) (by omega)
    obtain ⟨g0, g1, g2, g3, g4, g5⟩ := e
    unfold LR
    rw [hu 2 (by omega) (by omega), hu 3 (by omega) (by omega), hu 4 (by omega) (by omega), hu 5 (by omega) (by omega), hu 6 (by omega) (by omega)]
    have ewt : wt u = wt w := by funext k; unfold wt; rw [hu 2 (by omega) (by omega), hu 3 (by omega) (by omega)]
    refine ⟨?_, ?_, ?_, ?_, ?_, ?_⟩
    · show st _ 6 0 _ 0 j = _ ∧ _; rw [st_o (by decide), b1 0 (by decide)]; exact g0
    · show st _ 6 0 _ 1 j = _ ∧ _; rw [st_o (by decide), b1 1 (by decide)]; exact g1
    · show st _ 6 0 _ 2 j = _ ∧ _; rw [st_o (by decide), b1 2 (by decide)]; exact g2
    · show st _ 6 0 _ 3 j = _ ∧ _; rw [st_o (by decide), b1 3 (by decide)]; exact g3
    · show st _ 6 0 _ 4 j = _ ∧ _; rw [st_o (by decide), b1 4 (by decide)]; exact g4
    · show st _ 6 0 _ 5 j = _
      rw [st_o (by decide), b2 j, if_pos (by omega), g5, ewt, show n - j = (n - 1 - j) + 1 by omega, sm, show j + (n - 1 - j) = n - 1 by omega, add_neg_c]
  · obtain ⟨y1, y2, y3, y4⟩ := h.Y hi
    refine ⟨y1, ?_, by rw [hu 10 (by omega) (by omega)]; exact y3, fun j hj => ?_⟩
    · show st _ 6 0 _ (13 + 4 * i) 0 = _
      rw [st_o (by omega), b1 _ (by omega)]; exact y2
    · show (st _ 6 0 _ (10 + 4 * i) j = _ ∧ _) ∧ (st _ 6 0 _ (11 + 4 * i) j = _ ∧ _) ∧ (st _ 6 0 _ (12 + 4 * i) j = _ ∧ _)
      rw [st_o (by omega), st_o (by omega), st_o (by omega), b1 _ (by omega), b1 _ (by omega), b1 _ (by omega), hu 7 (by omega) (by omega), hu 8 (by omega) (by omega), hu 9 (by omega) (by omega)]
      exact y4 j hj
  · show st _ 6 0 _ 7 j = _
    rw [st_o (by decide), b1 7 (by decide), hu 1 (by omega) (by omega)]; exact h.S hj
  · rw [hu 1 (by omega) (by omega)]; exact h.s0
  · rw [hu 1 (by omega) (by omega)]; exact h.s1
  · rw [hu 1 (by omega) (by omega)]; exact h.s2
  · rw [hu 1 (by omega) (by omega)]; exact h.s3
theorem e_take0 {a : Nat → Nat → Int32} (h : a 6 0 = ii 0) : sX4_takeTop a = (0, a) := by
  unfold sX4_takeTop
  rw [h, if_pos (by rfl)]
theorem S_off {W : Nat → Nat → Nat → Int32} {w : Nat → Nat → Int32} (h : REL W w) : OK (sX6_off W) (sX7_off w) := by
  obtain ⟨⟨n, c, gW⟩, gF, gL, gR, gI, gS⟩ := id h
  have hn := gW.1
  have e1 : (1 : Int32) = ii 1 := rfl
  unfold sX6_off sX7_off
  simp only [bnd, bns]
  by_cases h0 : n = 0
  · subst h0
    rw [e_take0 gW.2.1.a6, gW.2.1.w11]
    have hsc : sc W 0 (W 0) = W := by
      funext k
      by_cases e : k = 0
      · subst e; exact sc_s
      · exact sc_o e
    rw [if_pos rfl, if_pos (by rfl)]
    show OK (sX6_refuse (sc W 0 (W 0)) (-3)) (sX7_no w (-3))
    rw [hsc]
    exact OK.no (h.refuse m3 (by omega) (by omega))
  · obtain ⟨t1, t2⟩ := gW.2.1.takeTop (u := st w 11 0 (ii (n - 1))) (by omega) (fun q a b => st_o (by omega)) st_rd
    rw [t1, if_neg (by decide), gW.2.1.w11, if_neg (fun q => h0 ((ii_0 (by omega)).mp q)), e1, ii_b (by omega), st_rd, sc_s, t2.a6]
    exact OK.mk rfl ⟨⟨n - 1, c, by omega, by rw [sc_s]; exact t2, fun j hj => by rw [st_o (by decide)]; exact gW.2.2 j hj⟩, gF.keep (sc_o (by decide)) (st_o (by decide)), gL.keep (sc_o (by decide)) (st_o (by decide)) (st_o (by decide)), gR.keep (sc_o (by decide)) (st_o (by decide)) (st_o (by decide)), gI.keep (sc_o (by decide)) (by rw [sc_o (by decide)]) (fun j hj => by rw [st_o (by decide)]) (by rw [st_o (by decide)]), gS.keep (st_o (by decide)) (st_o (by decide))⟩
/-! OUT and settings -/
theorem WR.out {n : Nat} {c : Nat → Nat} {a w : Nat → Nat → Int32} (h : WR n c a w) {k : Nat} (hk : k < n) {v : Int32} (hv : rg v 0 9) : WR n c (st a 2 k v) (st w 4 k v) := by
  refine ⟨h.n, by rw [st_o (by decide)]; exact h.a6, by rw [st_o (by decide)]; exact h.w11, fun j hj => ?_, fun i hi => ?_, fun j hj => ?_, ?_, ?_, ?_, ?_⟩
  · obtain ⟨g0, g1, g2, g3, g4, g5⟩ := h.L hj
    unfold LR
    have ewt : wt (st w 4 k v) = wt w := by funext k; unfold wt; rw [st_o (by decide), st_o (by decide)]
    rw [ewt, st_o (show ¬ 0 = 2 by decide), st_o (show ¬ 1 = 2 by decide), st_o (show ¬ 3 = 2 by decide), st_o (show ¬ 4 = 2 by decide), st_o (show ¬ 5 = 2 by decide), st_o (show ¬ 2 = 4 by decide), st_o (show ¬ 3 = 4 by decide), st_o (show ¬ 5 = 4 by decide), st_o (show ¬ 6 = 4 by decide), st_s, st_s]
    refine ⟨g0, g1, ?_, g3, g4, g5⟩
    unfold upd
    by_cases f : j = k
    · rw [if_pos f, if_pos f]; exact ⟨rfl, hv⟩
    · rw [if_neg f, if_neg f]; exact g2
  · have y := h.Y hi
    unfold YR at y ⊢
    rw [st_o (by omega), st_o (by omega), st_o (by omega), st_o (by omega), st_o (by omega), st_o (by omega), st_o (by omega), st_o (by omega)]
    exact y
  · rw [st_o (by decide), st_o (by decide)]; exact h.S hj
  · rw [st_o (by decide)]; exact h.s0
  · rw [st_o (by decide)]; exact h.s1
  · rw [st_o (by decide)]; exact h.s2
  · rw [st_o (by decide)]; exact h.s3
theorem WR.set {n : Nat} {c : Nat → Nat} {a w : Nat → Nat → Int32} (h : WR n c a w) {k : Nat} (hk : k < 4) {v : Int32} (h0 : k = 0 → rg v 0 12) (h1 : k = 1 → rg v 1 9) (h2 : k = 2 → rg v 1 9) (h3 : k = 3 → rg v 0 999) : WR n c (st a 7 k v) (st w 1 k v) := by
  refine ⟨h.n, by rw [st_o (by decide)]; exact h.a6, by rw [st_o (by decide)]; exact h.w11, fun j hj => ?_, fun i hi => ?_, fun j hj => ?_, ?_, ?_, ?_, ?_⟩
  · have e := h.L hj
    unfold LR at e ⊢
    have ewt : wt (st w 1 k v) = wt w := by funext k; unfold wt; rw [st_o (by decide), st_o (by decide)]
    rw [ewt, st_o (show ¬ 0 = 7 by decide), st_o (show ¬ 1 = 7 by decide), st_o (show ¬ 2 = 7 by decide), st_o (show ¬ 3 = 7 by decide), st_o (show ¬ 4 = 7 by decide), st_o (show ¬ 5 = 7 by decide), st_o (show ¬ 2 = 1 by decide), st_o (show ¬ 3 = 1 by decide), st_o (show ¬ 4 = 1 by decide), st_o (show ¬ 5 = 1 by decide), st_o (show ¬ 6 = 1 by decide)]
    exact e
  · have y := h.Y hi
    unfold YR at y ⊢
    rw [st_o (by omega), st_o (by omega), st_o (by omega), st_o (by omega), st_o (by omega), st_o (by omega), st_o (by omega), st_o (by omega)]
    exact y
  · rw [st_s, st_s]
    unfold upd
    split
    · rfl
    · exact h.S hj
  · rw [st_s]; unfold upd; split
    · rename_i e; exact h0 e.symm
    · exact h.s0
  · rw [st_s]; unfold upd; split
    · rename_i e; exact h1 e.symm
    · exact h.s1
  · rw [st_s]; unfold upd; split
    · rename_i e; exact h2 e.symm
    · exact h.s2
  · rw [st_s]; unfold upd; split
    · rename_i e; exact h3 e.symm
    · exact h.s3
theorem S_out {W : Nat → Nat → Nat → Int32} {w : Nat → Nat → Int32} (h : REL W w) (x y : Int32) : OK (sX6_out W x y) (sX7_out w x y) := by
  obtain ⟨⟨n, c, gW⟩, gF, gL, gR, gI, gS⟩ := id h
  have hn := gW.1
  unfold sX6_out sX7_out
  rcases layer_c gW.2.1 x with ⟨k, hk, rfl, e1, e2⟩ | ⟨e1, e2⟩
  · rw [e1, e2, if_neg n10, if_neg n10, ii_n (by omega)]
    rcases bound_c y 0 9 with ⟨a, b, e⟩ | ⟨a, e⟩ | ⟨a, b, e⟩
    · rw [e, if_pos z00, if_pos a, if_pos b]
      simp only [bns]
      have b1 := i_le a
      have b2 := i_le b
      rw [q_0] at b1
      rw [q_9] at b2
      refine OK.mk (gW.2.1.L hk).2.2.1.1 ⟨⟨n, c, gW.1, by rw [sc_s]; exact gW.2.1.out hk ⟨b1, b2⟩, fun j hj => by rw [st_o (by decide)]; exact gW.2.2 j hj⟩, gF.keep (sc_o (by decide)) (st_o (by decide)), gL.keep (sc_o (by decide)) (st_o (by decide)) (st_o (by decide)), gR.keep (sc_o (by decide)) (st_o (by decide)) (st_o (by decide)), gI.keep (sc_o (by decide)) (by rw [sc_o (by decide)]) (fun j hj => by rw [st_o (by decide)]) (by rw [st_o (by decide)]), gS.keep (st_o (by decide)) (st_o (by decide))⟩
    · rw [e, if_neg n40, if_neg a]
      exact OK.no (h.refuse m4 (by omega) (by omega))
    · rw [e, if_neg n60, if_pos a, if_neg b]
      exact OK.no (h.refuse m6 (by omega) (by omega))
  · rw [e1, e2, if_pos z00, if_pos z00]
    exact OK.no (h.refuse m1 (by omega) (by omega))
theorem S_set1 {W : Nat → Nat → Nat → Int32} {w : Nat → Nat → Int32} (h : REL W w) {k : Nat} (hk : k < 4) {lo hi y : Int32} {l m : Int} (hl : lo.toInt = l) (hm : hi.toInt = m) (ho : (k = 0 → l = 0 ∧ m = 5) ∧ (k = 1 → l = 1 ∧ m = 9) ∧ (k = 2 → l = 1 ∧ m = 9) ∧ (k = 3 → l = 0 ∧ m = 999)) : OK (if lo ≤ y then if y ≤ hi then bns (sc W 0 (st (W 0) 7 k y)) (fun wn_9 => (W 0 7 k, wn_9)) else bnd (sX6_refuse W (-6)) (fun rn_10 wn_10 => (rn_10, wn_10)) else bnd (sX6_refuse W (-4)) (fun rn_11 wn_11 => (rn_11, wn_11))) (if sX7_bound y lo hi = 0 then bns (st w 1 k y) (fun wn_8 => (w 1 k, wn_8)) else bnd (sX7_no w (sX7_bound y lo hi)) (fun rn_9 wn_9 => (rn_9, wn_9))) := by
  obtain ⟨⟨n, c, gW⟩, gF, gL, gR, gI, gS⟩ := id h
  rcases bound_c y lo hi with ⟨a, b, e⟩ | ⟨a, e⟩ | ⟨a, b, e⟩
  · rw [e, if_pos z00, if_pos a, if_pos b]
    simp only [bns]
    have b1 := i_le a
    have b2 := i_le b
    rw [hl] at b1
    rw [hm] at b2
    refine OK.mk (gW.2.1.S hk) ⟨⟨n, c, gW.1, by rw [sc_s]; exact gW.2.1.set hk (fun q => by have := ho.1 q; exact ⟨by omega, by omega⟩) (fun q => by have := ho.2.1 q; exact ⟨by omega, by omega⟩) (fun q => by have := ho.2.2.1 q; exact ⟨by omega, by omega⟩) (fun q => by have := ho.2.2.2 q; exact ⟨by omega, by omega⟩), fun j hj => by rw [st_o (by decide)]; exact gW.2.2 j hj⟩, gF.keep (sc_o (by decide)) (st_o (by decide)), gL.keep (sc_o (by decide)) (st_o (by decide)) (st_o (by decide)), gR.keep (sc_o (by decide)) (st_o (by decide)) (st_o (by decide)), gI.keep (sc_o (by decide)) (by rw [sc_o (by decide)]) (fun j hj => by rw [st_o (by decide)]) (by rw [st_o (by decide)]), gS.keep (st_o (by decide)) (st_o (by decide))⟩
  · rw [e, if_neg n40, if_neg a]
    exact OK.no (h.refuse m4 (by omega) (by omega))
  · rw [e, if_neg n60, if_pos a, if_neg b]
    exact OK.no (h.refuse m6 (by omega) (by omega))
theorem S_set {W : Nat → Nat → Nat → Int32} {w : Nat → Nat → Int32} (h : REL W w) (x y : Int32) : OK (sX6_set W x y) (sX7_set w x y) := by
  obtain ⟨l0, l1, l2, l3, s0, s1, s2, s3⟩ := ls_all
  unfold sX6_set sX7_set
  rcases isIn_c x 0 3 with ⟨a, b, e⟩ | ⟨a, e⟩
  · have b1 := i_le a
    have b2 := i_le b
    rw [q_0] at b1
    rw [q_3] at b2
    rw [e, if_neg n10, if_neg (fun q => by have := i_lt q; rw [q_0] at this; omega), if_pos b]
    obtain ⟨k, rfl⟩ : ∃ k, x = ii k := ⟨_, ii_of b1⟩
    have hk : (ii k).toInt ≤ 3 := b2
    have hk0 : 0 ≤ (ii k).toInt := b1
    have hk2 : (ii k).toNatClampNeg < 4 := by show (ii k).toInt.toNat < 4; omega
    have hcase : ii k = ii 0 ∨ ii k = ii 1 ∨ ii k = ii 2 ∨ ii k = ii 3 := by
      have e2 := ii_of (x := ii k) b1
      rcases (show (ii k).toInt.toNat = 0 ∨ (ii k).toInt.toNat = 1 ∨ (ii k).toInt.toNat = 2 ∨ (ii k).toInt.toNat = 3 by omega) with q | q | q | q
      · rw [q] at e2; exact Or.inl e2
      · rw [q] at e2; exact Or.inr (Or.inl e2)
      · rw [q] at e2; exact Or.inr (Or.inr (Or.inl e2))
      · rw [q] at e2; exact Or.inr (Or.inr (Or.inr e2))
    rcases hcase with q | q | q | q
    · rw [q, if_neg (show ¬ ii 0 = 1 by decide), if_neg (show ¬ ii 0 = 2 by decide)]
      exact S_set1 (k := 0) (lo := 0) (hi := 5) h (by omega) q_0 q_5 ⟨fun _ => ⟨rfl, rfl⟩, fun _ => by omega, fun _ => by omega, fun _ => by omega⟩
    · rw [q, if_pos (show ii 1 = 1 by rfl)]
      exact S_set1 (k := 1) (lo := 1) (hi := 9) h (by omega) q_1 q_9 ⟨fun _ => by omega, fun _ => ⟨rfl, rfl⟩, fun _ => by omega, fun _ => by omega⟩
    · rw [q, if_neg (show ¬ ii 2 = 1 by decide), if_pos (show ii 2 = 2 by rfl)]
      exact S_set1 (k := 2) (lo := 1) (hi := 9) h (by omega) q_1 q_9 ⟨fun _ => by omega, fun _ => by omega, fun _ => ⟨rfl, rfl⟩, fun _ => by omega⟩
    · rw [q, if_neg (show ¬ ii 3 = 1 by decide), if_neg (show ¬ ii 3 = 2 by decide)]
      exact S_set1 (k := 3) (lo := 0) (hi := 999) h (by omega) q_0 q_999 ⟨fun _ => by omega, fun _ => by omega, fun _ => by omega, fun _ => ⟨rfl, rfl⟩⟩
  · rw [e, if_pos z00]
    rcases a with a | a
    · rw [if_pos a]
      exact OK.no (h.refuse m2 (by omega) (by omega))
    · have a' := i_lt a
      rw [q_3] at a'
      rw [if_neg (fun q => by have := i_lt q; rw [q_0] at this; omega), if_neg (fun q => by have := i_le q; rw [q_3] at this; omega)]
      exact OK.no (h.refuse m2 (by omega) (by omega))
theorem S_fell {W : Nat → Nat → Nat → Int32} {w : Nat → Nat → Int32} (h : REL W w) (x y : Int32) : OK (sX6_fell W x y) (sX7_fell w x y) := by
  obtain ⟨⟨n, c, gW⟩, gF, gL, gR, gI, gS⟩ := id h
  have hn := gW.1
  unfold sX6_fell sX7_fell
  rcases piece_c gW.2.1 x y with ⟨i, p, hi, hp, rfl, rfl, e1, e2⟩ | ⟨e1, e2⟩
  · rw [e1, e2, if_neg n10, if_neg n10, q6p, gW.2.1.fell hi hp]
    have hF : ∀ m x k, k < 1000 → sX6_fell_23 W (ii i) (ii p) (m + 1) x (ii k) = if n ≤ k then (fun x => (x, W)) x else if SP (W 0) i p k = true then sX6_fell_23 W (ii i) (ii p) m (x ||| (1 <<< (ii k &&& 31))) (ii (k + 1)) else sX6_fell_23 W (ii i) (ii p) m x (ii (k + 1)) := fun m x k hk => by
      rw [sX6_fell_23, gW.2.1.a6, ii_s, ifle (by omega) (by omega)]
      by_cases d : sX4_slipsAt (W 0) (ii i) (ii p) (ii k) = 0
      · rw [if_pos d, SP_f.mpr d]; rfl
      · rw [if_neg d, SP_t.mpr d]; rfl
    have e := fbL (g := fun x => (x, W)) hF (by omega) 13 0 (by omega) (by omega)
    have e' : sX6_fell_23 W (ii i) (ii p) 13 0 0 = (fb (SP (W 0) i p) n, W) := e
    rw [e']
    exact OK.mk rfl h
  · rw [e1, e2, if_pos z00, if_pos z00]
    exact OK.no (h.refuse m1 (by omega) (by omega))
