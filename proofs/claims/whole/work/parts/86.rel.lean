/-! the two objects between calls -/
def AG (n : Nat) (u w : Nat → Nat → Int32) : Prop := (∀ j, j < 4 → u 1 j = w 1 j) ∧ (∀ q, 2 ≤ q → q ≤ 6 → ∀ j, j < n → u q j = w q j) ∧ (∀ q, 7 ≤ q → q ≤ 9 → ∀ j, j < 12 → u q j = w q j) ∧ (∀ j, j < 2 → u 10 j = w 10 j) ∧ u 11 0 = w 11 0
theorem WR.keepA {n : Nat} {c : Nat → Nat} {a w u : Nat → Nat → Int32} (h : WR n c a w) (hu : AG n u w) : WR n c a u := by
  obtain ⟨h1, h2, h3, h4, h5⟩ := hu
  refine ⟨h.n, h.a6, by rw [h5]; exact h.w11, fun j hj => ?_, fun i hi => ?_, fun j hj => by rw [h1 j hj]; exact h.S hj, by rw [h1 0 (by omega)]; exact h.s0, by rw [h1 1 (by omega)]; exact h.s1, by rw [h1 2 (by omega)]; exact h.s2, by rw [h1 3 (by omega)]; exact h.s3⟩
  · have e := h.L hj
    unfold LR at e ⊢
    rw [h2 2 (by omega) (by omega) j hj, h2 3 (by omega) (by omega) j hj, h2 4 (by omega) (by omega) j hj, h2 5 (by omega) (by omega) j hj, h2 6 (by omega) (by omega) j hj]
    have es : sm (wt u) j (n - j) = sm (wt w) j (n - j) := sm_cong _ (fun k a b => by
      unfold wt
      rw [h2 2 (by omega) (by omega) k (by omega), h2 3 (by omega) (by omega) k (by omega)])
    rw [es]
    exact e
  · have e := h.Y hi
    unfold YR at e ⊢
    obtain ⟨y1, y2, y3, y4⟩ := e
    refine ⟨y1, y2, by rw [h4 i hi]; exact y3, fun j hj => ?_⟩
    rw [h3 7 (by omega) (by omega) _ (by omega), h3 8 (by omega) (by omega) _ (by omega), h3 9 (by omega) (by omega) _ (by omega)]
    exact y4 j hj
/-- the class's side: only what counts -/
def AC (n : Nat) (c : Nat → Nat) (b a : Nat → Nat → Int32) : Prop := (∀ q, q ≤ 5 → ∀ j, j < n → b q j = a q j) ∧ b 6 0 = a 6 0 ∧ (∀ j, j < 4 → b 7 j = a 7 j) ∧ ∀ i, i < 2 → b (13 + 4 * i) 0 = a (13 + 4 * i) 0 ∧ ∀ j, j < c i → b (10 + 4 * i) j = a (10 + 4 * i) j ∧ b (11 + 4 * i) j = a (11 + 4 * i) j ∧ b (12 + 4 * i) j = a (12 + 4 * i) j
theorem WR.keepC {n : Nat} {c : Nat → Nat} {a b w : Nat → Nat → Int32} (h : WR n c a w) (hu : AC n c b a) : WR n c b w := by
  obtain ⟨h1, h2, h3, h4⟩ := hu
  refine ⟨h.n, by rw [h2]; exact h.a6, h.w11, fun j hj => ?_, fun i hi => ?_, fun j hj => by rw [h3 j hj]; exact h.S hj, h.s0, h.s1, h.s2, h.s3⟩
  · have e := h.L hj
    unfold LR at e ⊢
    rw [h1 0 (by omega) j hj, h1 1 (by omega) j hj, h1 2 (by omega) j hj, h1 3 (by omega) j hj, h1 4 (by omega) j hj, h1 5 (by omega) j hj]
    exact e
  · have e := h.Y hi
    unfold YR at e ⊢
    obtain ⟨y1, y2, y3, y4⟩ := e
    obtain ⟨g1, g2⟩ := h4 i hi
    refine ⟨y1, by rw [g1]; exact y2, y3, fun j hj => ?_⟩
    rw [(g2 j hj).1, (g2 j hj).2.1, (g2 j hj).2.2]
    exact y4 j hj
def IW (n : Nat) (c : Nat → Nat) (a w : Nat → Nat → Int32) : Prop := n ≤ 11 ∧ WR n c a w ∧ ∀ j, j < 12 → w 6 j = 0
def IM (W : Nat → Nat → Nat → Int32) (w : Nat → Nat → Int32) : Prop := W 5 1 0 = w 20 0 ∧ (¬ w 20 0 = 0 → ∃ n c, IW n c (W 2) (sX7_passesAll w 0 0))
def LT (W : Nat → Nat → Nat → Int32) (w : Nat → Nat → Int32) : Prop := ∃ t, t ≤ 96 ∧ W 3 1 0 = ii t ∧ w 16 0 = ii t ∧ ∀ j, j < t → W 3 0 j = w 12 j ∧ rg (w 12 j) 0 255
def RT (W : Nat → Nat → Nat → Int32) (w : Nat → Nat → Int32) : Prop := ∃ t, t ≤ 12 ∧ W 4 1 0 = ii t ∧ w 27 0 = ii t ∧ ∀ j, j < t → W 4 0 j = w 26 j ∧ rg (w 26 j) 0 99
def FT (W : Nat → Nat → Nat → Int32) (w : Nat → Nat → Int32) : Prop := ∀ k, k < 7 → W 5 0 k = w 0 k
def ST7 (w : Nat → Nat → Int32) : Prop := rg (w 17 0) 0 96 ∧ rg (w 18 0) 0 48
def REL (W : Nat → Nat → Nat → Int32) (w : Nat → Nat → Int32) : Prop := (∃ n c, IW n c (W 0) w) ∧ FT W w ∧ LT W w ∧ RT W w ∧ IM W w ∧ ST7 w
theorem REL.R7 {W : Nat → Nat → Nat → Int32} {w : Nat → Nat → Int32} (h : REL W w) : R7I w := by
  obtain ⟨⟨n, c, h1, h2, h3⟩, -, ⟨t, t1, -, t2, -⟩, ⟨r, r1, -, r2, -⟩, -, ⟨s1, s2⟩⟩ := h
  refine ⟨?_, ?_, s1, ?_, s2, fun j hj => ?_⟩
  · rw [h2.w11, ii_t (by omega)]; omega
  · rw [t2, ii_t (by omega)]; omega
  · rw [r2, ii_t (by omega)]; omega
  · obtain ⟨y1, y2, y3, y4⟩ := h2.Y hj
    rw [y3, ii_t (by omega)]; omega
theorem REL.n11 {W : Nat → Nat → Nat → Int32} {w : Nat → Nat → Int32} (h : REL W w) : (w 11 0).toInt ≤ 11 := by
  obtain ⟨⟨n, c, h1, h2, h3⟩, -⟩ := h
  rw [h2.w11, ii_t (by omega)]; omega
theorem way_ii {x : Int32} (h1 : 0 ≤ x.toInt) (h2 : x.toInt < 2) : ∃ i, i < 2 ∧ x = ii i := ⟨x.toInt.toNat, by omega, ii_of h1⟩
theorem REL.H7 {W : Nat → Nat → Nat → Int32} {w : Nat → Nat → Int32} (h : REL W w) (a : Int32) (h1 : 0 ≤ a.toInt) (h2 : a.toInt < 2) (h3 : (w 11 0).toInt ≠ 0) : H7S w a := by
  obtain ⟨⟨n, c, g1, g2, g3⟩, -⟩ := h
  obtain ⟨i, hi, rfl⟩ := way_ii h1 h2
  rw [g2.w11, ii_t (by omega)] at h3
  have hp := g2.pitch_b g2.s2
  have hm := g2.minutes_b hi
  exact ⟨g2.s2.1, hp.2.2 (by omega), hp.2.1, hm.1, hm.2⟩
/-! what changes nothing that counts, on the reference's side -/
def SQ (u w : Nat → Nat → Int32) : Prop := (∀ q, q ≠ 13 → q ≠ 14 → q ≠ 15 → q ≠ 19 → q ≠ 21 → q ≠ 22 → q ≠ 23 → q ≠ 24 → q ≠ 25 → q ≠ 28 → u q = w q) ∧ ∀ j, j < 125 → u 19 j = w 19 j
theorem SQ.rf (w : Nat → Nat → Int32) : SQ w w := ⟨fun _ _ _ _ _ _ _ _ _ _ _ => rfl, fun _ _ => rfl⟩
theorem SQ.tr {u v w : Nat → Nat → Int32} (h : SQ u v) (g : SQ v w) : SQ u w := ⟨fun q a b c d e f i j k l => by rw [h.1 q a b c d e f i j k l, g.1 q a b c d e f i j k l], fun j hj => by rw [h.2 j hj, g.2 j hj]⟩
theorem SQ.find {u w : Nat → Nat → Int32} (h : ∀ q, q ≠ 23 → q ≠ 24 → u q = w q) : SQ u w := ⟨fun q _ _ _ _ _ _ e f _ _ => h q e f, fun j _ => by rw [h 19 (by decide) (by decide)]⟩
theorem IM.keep {W V : Nat → Nat → Nat → Int32} {w u : Nat → Nat → Int32} (h : IM W w) (hV : V 2 = W 2) (hV5 : V 5 1 0 = W 5 1 0) (h19 : ∀ j, j < 125 → u 19 j = w 19 j) (h20 : u 20 0 = w 20 0) : IM V u := by
  obtain ⟨h1, h2⟩ := h
  refine ⟨by rw [hV5, h1, h20], fun h0 => ?_⟩
  rw [h20] at h0
  obtain ⟨n, c, g1, g2, g3⟩ := h2 h0
  obtain ⟨p1, p2, p3, p4⟩ := pa_rest u 0 (by omega)
  obtain ⟨r1, r2, r3, r4⟩ := pa_rest w 0 (by omega)
  have e0 : sX7_passesAll u (ii 0) 0 = sX7_passesAll u 0 0 := rfl
  have e1 : sX7_passesAll w (ii 0) 0 = sX7_passesAll w 0 0 := rfl
  rw [e0] at p2 p3
  rw [e1] at r2 r3
  have hin : ∀ q, 1 ≤ q → q ≤ 10 → ∀ j, j < lnr q → sX7_passesAll u 0 0 q j = sX7_passesAll w 0 0 q j := fun q a b j hj => by
    have hs := ofr_s a b
    rw [p2 q a b j, r2 q a b j, if_pos hj, if_pos hj, h19 _ (by omega)]
  have hAG : AG 12 (sX7_passesAll u 0 0) (sX7_passesAll w 0 0) := by
    refine ⟨fun j hj => hin 1 (by omega) (by omega) j hj, fun q a b j hj => ?_, fun q a b j hj => ?_, fun j hj => hin 10 (by omega) (by omega) j hj, ?_⟩
    · rcases (show q = 2 ∨ q = 3 ∨ q = 4 ∨ q = 5 ∨ q = 6 by omega) with rfl | rfl | rfl | rfl | rfl <;> exact hin _ (by omega) (by omega) j hj
    · rcases (show q = 7 ∨ q = 8 ∨ q = 9 by omega) with rfl | rfl | rfl <;> exact hin _ (by omega) (by omega) j hj
    · rw [p3, r3, h19 _ (by omega)]
  refine ⟨n, c, g1, ?_, fun j hj => by rw [hin 6 (by omega) (by omega) j hj]; exact g3 j hj⟩
  rw [hV]
  exact g2.keepA ⟨hAG.1, fun q a b j hj => hAG.2.1 q a b j (by have := g2.n; omega), hAG.2.2⟩
theorem REL.sq {W V : Nat → Nat → Nat → Int32} {w u : Nat → Nat → Int32} (h : REL W w) (hs : SQ u w) (h0 : V 0 = W 0) (h2 : V 2 = W 2) (h3 : V 3 = W 3) (h4 : V 4 = W 4) (h5 : V 5 = W 5) : REL V u := by
  obtain ⟨⟨n, c, g1, g2, g3⟩, gF, ⟨t, t1, t2, t3, t4⟩, ⟨r, r1, r2, r3, r4⟩, gI, ⟨s1, s2⟩⟩ := h
  have e := fun (q : Nat) (a : q ≤ 12 ∨ 16 ≤ q ∧ q ≤ 18 ∨ q = 20 ∨ 26 ≤ q ∧ q ≤ 27) => hs.1 q (by omega) (by omega) (by omega) (by omega) (by omega) (by omega) (by omega) (by omega) (by omega) (by omega)
  refine ⟨⟨n, c, g1, ?_, fun j hj => by rw [e 6 (by omega)]; exact g3 j hj⟩, fun k hk => by rw [h5, e 0 (by omega)]; exact gF k hk, ⟨t, t1, by rw [h3]; exact t2, by rw [e 16 (by omega)]; exact t3, fun j hj => by rw [h3, e 12 (by omega)]; exact t4 j hj⟩, ⟨r, r1, by rw [h4]; exact r2, by rw [e 27 (by omega)]; exact r3, fun j hj => by rw [h4, e 26 (by omega)]; exact r4 j hj⟩, gI.keep h2 (by rw [h5]) hs.2 (by rw [e 20 (by omega)]), by rw [e 17 (by omega)]; exact s1, by rw [e 18 (by omega)]; exact s2⟩
  rw [h0]
  exact g2.keep (fun q a b => e q (by omega))
theorem sc_o {W : Nat → Nat → Nat → Int32} {k a : Nat} {v : Nat → Nat → Int32} (h : ¬ a = k) : sc W k v a = W a := if_neg h
theorem sc_s {W : Nat → Nat → Nat → Int32} {k : Nat} {v : Nat → Nat → Int32} : sc W k v k = v := if_pos rfl
def OK (p : Int32 × (Nat → Nat → Nat → Int32)) (q : Int32 × (Nat → Nat → Int32)) : Prop := p.1 = q.1 ∧ REL p.2 q.2
theorem OK.mk {r s : Int32} {V : Nat → Nat → Nat → Int32} {u : Nat → Nat → Int32} (h1 : r = s) (h2 : REL V u) : OK (r, V) (s, u) := ⟨h1, h2⟩
theorem OK.no {p : Int32 × (Nat → Nat → Nat → Int32)} {q : Int32 × (Nat → Nat → Int32)} (h : OK p q) : OK (bnd p (fun r u => (r, u))) (bnd q (fun r u => (r, u))) := h
theorem n10 : ¬ (1 : Int32) = 0 := by decide
theorem n40 : ¬ (-4 : Int32) = 0 := by decide
theorem n60 : ¬ (-6 : Int32) = 0 := by decide
theorem z00 : (0 : Int32) = 0 := rfl
/-! refusals -/
theorem e_refuse {W : Nat → Nat → Nat → Int32} {x : Int32} {k : Nat} (hx : -x = ii k) (h1 : 1 ≤ k) (h2 : k ≤ 6) : sX6_refuse W x = (x, sc W 5 (st (W 5) 0 k (W 5 0 k + 1))) := by
  have e0 : (0 : Int32) = ii 0 := rfl
  have e7 : (7 : Int32) = ii 7 := rfl
  unfold sX6_refuse
  rw [hx, e0, e7, ifle (by omega) (by omega), ifle (by omega) (by omega), if_neg (by omega), if_neg (by omega), ii_n (by omega)]
  rfl
theorem e_no {w : Nat → Nat → Int32} {x : Int32} {k : Nat} (hx : -x = ii k) (h2 : k ≤ 6) : sX7_no w x = (x, st w 0 k (w 0 k + 1)) := by
  unfold sX7_no
  rw [hx, ii_n (by omega)]
  rfl
theorem REL.no {W : Nat → Nat → Nat → Int32} {w : Nat → Nat → Int32} (h : REL W w) {k : Nat} (hk : k ≤ 6) : REL (sc W 5 (st (W 5) 0 k (W 5 0 k + 1))) (st w 0 k (w 0 k + 1)) := by
  obtain ⟨⟨n, c, g1, g2, g3⟩, gF, ⟨t, t1, t2, t3, t4⟩, ⟨r, r1, r2, r3, r4⟩, gI, ⟨s1, s2⟩⟩ := h
  refine ⟨⟨n, c, g1, ?_, fun j hj => by rw [st_o (by decide)]; exact g3 j hj⟩, fun j hj => ?_, ⟨t, t1, by rw [sc_o (by decide)]; exact t2, by rw [st_o (by decide)]; exact t3, fun j hj => by rw [sc_o (by decide), st_o (by decide)]; exact t4 j hj⟩, ⟨r, r1, by rw [sc_o (by decide)]; exact r2, by rw [st_o (by decide)]; exact r3, fun j hj => by rw [sc_o (by decide), st_o (by decide)]; exact r4 j hj⟩, gI.keep (sc_o (by decide)) (by rw [sc_s, st_o (by decide)]) (fun j hj => by rw [st_o (by decide)]) (by rw [st_o (by decide)]), by rw [st_o (by decide)]; exact s1, by rw [st_o (by decide)]; exact s2⟩
  · rw [sc_o (by decide)]
    exact g2.keep (fun q a b => st_o (by omega))
  · rw [sc_s, st_s, st_s, gF k (by omega)]
    unfold upd
    split
    · rfl
    · exact gF j hj
theorem REL.refuse {W : Nat → Nat → Nat → Int32} {w : Nat → Nat → Int32} (h : REL W w) {x : Int32} {k : Nat} (hx : -x = ii k) (h1 : 1 ≤ k) (h2 : k ≤ 6) : OK (sX6_refuse W x) (sX7_no w x) := by
  rw [e_refuse hx h1 h2, e_no hx h2]
  exact ⟨rfl, h.no h2⟩
theorem REL.wide {W : Nat → Nat → Nat → Int32} {w : Nat → Nat → Int32} (h : REL W w) {x : Int32} {k : Nat} (hx : -x = ii k) (h1 : 1 ≤ k) (h2 : k ≤ 6) : OK (sX6_refuseWide W x) (sX7_lower w x) := by
  unfold sX6_refuseWide sX7_lower bnd bns
  rw [e_refuse hx h1 h2, hx, ii_n (by omega)]
  exact ⟨rfl, h.no h2⟩
theorem m1 : -(-1 : Int32) = ii 1 := by decide
theorem m2 : -(-2 : Int32) = ii 2 := by decide
theorem m3 : -(-3 : Int32) = ii 3 := by decide
theorem m4 : -(-4 : Int32) = ii 4 := by decide
theorem m6 : -(-6 : Int32) = ii 6 := by decide
/-! cases -/
theorem bound_c (a lo hi : Int32) : (lo ≤ a ∧ a ≤ hi ∧ sX7_bound a lo hi = 0) ∨ (¬ lo ≤ a ∧ sX7_bound a lo hi = -4) ∨ (lo ≤ a ∧ ¬ a ≤ hi ∧ sX7_bound a lo hi = -6) := by
  unfold sX7_bound
  by_cases h1 : lo ≤ a
  · by_cases h2 : a ≤ hi
    · exact Or.inl ⟨h1, h2, by rw [if_pos h1, if_pos h2]⟩
    · exact Or.inr (Or.inr ⟨h1, h2, by rw [if_pos h1, if_neg h2]⟩)
  · exact Or.inr (Or.inl ⟨h1, by rw [if_neg h1]⟩)
theorem isIn_c (a lo hi : Int32) : (lo ≤ a ∧ a ≤ hi ∧ sX7_isIn a lo hi = 1) ∨ ((a < lo ∨ hi < a) ∧ sX7_isIn a lo hi = 0) := by
  unfold sX7_isIn
  by_cases h1 : a < lo
  · exact Or.inr ⟨Or.inl h1, by rw [if_pos h1]⟩
  · by_cases h2 : hi < a
    · exact Or.inr ⟨Or.inr h2, by rw [if_neg h1, if_pos h2]⟩
    · exact Or.inl ⟨Int32.not_lt.mp h1, Int32.not_lt.mp h2, by rw [if_neg h1, if_neg h2]⟩
theorem way_c (t : Nat → Nat → Int32) (a : Int32) : (∃ i, i < 2 ∧ a = ii i ∧ sX4_hasWay t a = 1 ∧ sX7_isWay a = 1) ∨ (sX4_hasWay t a = 0 ∧ sX7_isWay a = 0) := by
  by_cases h0 : a = 0
  · subst h0; exact Or.inl ⟨0, by omega, rfl, by rfl, by rfl⟩
  · by_cases h1 : a = 1
    · subst h1; exact Or.inl ⟨1, by omega, rfl, by rfl, by rfl⟩
    · right
      unfold sX7_isWay sX4_hasWay
      rw [if_neg h0, if_neg h1]
      refine ⟨?_, rfl⟩
      have g0 := i_ne h0
      have g1 := i_ne h1
      rw [q_0] at g0
      rw [q_1] at g1
      by_cases c1 : a < 0
      · rw [if_pos c1]
      · have := i_nlt c1
        rw [q_0] at this
        rw [if_neg c1, if_pos (Int32.le_iff_toInt_le.mpr (by rw [q_2]; omega))]
theorem layer_c {n : Nat} {c : Nat → Nat} {a w : Nat → Nat → Int32} (h : WR n c a w) (x : Int32) : (∃ k, k < n ∧ x = ii k ∧ sX4_hasLayer a x = 1 ∧ sX7_isLayer w x = 1) ∨ (sX4_hasLayer a x = 0 ∧ sX7_isLayer w x = 0) := by
  have hn := h.n
  unfold sX4_hasLayer sX7_isLayer
  rw [h.a6, h.w11]
  by_cases c1 : x < 0
  · right; rw [if_pos c1]; exact ⟨rfl, rfl⟩
  · rw [if_neg c1]
    have := i_nlt c1
    rw [q_0] at this
    by_cases c2 : ii n ≤ x
    · right; rw [if_pos c2]; exact ⟨rfl, rfl⟩
    · left
      rw [if_neg c2]
      have g := i_nle c2
      rw [ii_t (by omega)] at g
      exact ⟨x.toInt.toNat, by omega, ii_of this, rfl, rfl⟩
theorem piece_c {n : Nat} {c : Nat → Nat} {a w : Nat → Nat → Int32} (h : WR n c a w) (x y : Int32) : (∃ i p, i < 2 ∧ p < c i ∧ x = ii i ∧ y = ii p ∧ sX4_hasPiece a x y = 1 ∧ sX7_isPiece w x y = 1) ∨ (sX4_hasPiece a x y = 0 ∧ sX7_isPiece w x y = 0) := by
  rcases way_c a x with ⟨i, hi, rfl, e1, e2⟩ | ⟨e1, e2⟩
  · obtain ⟨y1, y2, y3, y4⟩ := h.Y hi
    have f4 : sX4_hasPiece a (ii i) y = (if y < 0 then 0 else if ii (c i) ≤ y then 0 else 1) := by
      unfold sX4_hasPiece
      rw [e1, if_neg (show ¬ (1 : Int32) = 0 by decide), ii_n (by omega), y2]
    have f7 : sX7_isPiece w (ii i) y = (if y < 0 then 0 else if ii (c i) ≤ y then 0 else 1) := by
      unfold sX7_isPiece
      rw [e2, if_neg (show ¬ (1 : Int32) = 0 by decide), ii_n (by omega), y3]
    rw [f4, f7]
    by_cases c1 : y < 0
    · right; rw [if_pos c1]; exact ⟨rfl, rfl⟩
    · rw [if_neg c1]
      have := i_nlt c1
      rw [q_0] at this
      by_cases c2 : ii (c i) ≤ y
      · right; rw [if_pos c2]; exact ⟨rfl, rfl⟩
      · left
        rw [if_neg c2]
        have g := i_nle c2
        rw [ii_t (by omega)] at g
        exact ⟨i, y.toInt.toNat, hi, by omega, rfl, ii_of this, rfl, rfl⟩
  · right
    unfold sX4_hasPiece sX7_isPiece
    rw [e1, e2, if_pos rfl, if_pos rfl]
    exact ⟨rfl, rfl⟩
