/-! how high -/
def HB (w : Nat → Nat → Int32) (i L : Nat) : Bool := !decide ((sX7_doesHold (st w 11 0 (ii L)) (ii i)).1 = 0)
def gh (p : Nat → Bool) : Nat → Int32
  | 0 => 0
  | k + 1 => if p (k + 1) = true then ii (k + 1) else gh p k
theorem st_st {w : Nat → Nat → Int32} {k j : Nat} {x y : Int32} : st (st w k j x) k j y = st w k j y := by
  funext q
  unfold st
  by_cases e : q = k
  · rw [if_pos e, if_pos e, if_pos rfl]
    funext z
    unfold upd
    split <;> rfl
  · rw [if_neg e, if_neg e, if_neg e]
theorem e_highC {w : Nat → Nat → Int32} {W : Nat → Nat → Nat → Int32} {c : Nat → Nat} {i : Nat} (hi : i < 2) : ∀ (m k : Nat) (V : Nat → Nat → Nat → Int32), k ≤ 12 → k < m → T1 V W → WR k c (V 1) (st w 11 0 (ii k)) → (sX6_high_36 (ii i) m (ii k) V).1 = gh (HB w i) k ∧ T1 (sX6_high_36 (ii i) m (ii k) V).2 W := by
  have e0 : (0 : Int32) = ii 0 := rfl
  intro m
  induction m with
  | zero => intro k V _ h; omega
  | succ m ih =>
    intro k V hk hm hT hW
    rw [sX6_high_36]
    cases k with
    | zero => rw [if_pos (by decide)]; exact ⟨rfl, hT⟩
    | succ k =>
      have hgt : ¬ ii (k + 1) ≤ 0 := fun q => by have := (ii_le (k := k + 1) (j := 0) (by omega) (by omega)).mp q; omega
      have g1 := (hW.doesHold hi).1
      rw [if_neg hgt, ← g1]
      by_cases f : (sX7_doesHold (st w 11 0 (ii (k + 1))) (ii i)).1 = 0
      · rw [if_pos f]
        simp only [bns, bnd]
        obtain ⟨t1, t2⟩ := hW.takeTop (u := st w 11 0 (ii k)) (by omega) (fun q a b => by rw [st_o (by omega), st_o (by omega)]) (by rw [st_rd]; rfl)
        rw [e_mone]
        have e := ih k (sc V 1 (sX4_takeTop (V 1)).2) (by omega) (by omega) (hT.sc _) (by rw [sc_s]; exact t2)
        have eg : gh (HB w i) (k + 1) = gh (HB w i) k := by rw [gh, if_neg (by unfold HB; simp [f])]
        rw [eg]
        exact e
      · rw [if_neg f]
        have eg : gh (HB w i) (k + 1) = ii (k + 1) := by rw [gh, if_pos (by unfold HB; simp [f])]
        rw [eg]
        exact ⟨rfl, hT⟩
theorem WR.less {n : Nat} {c : Nat → Nat} {a w : Nat → Nat → Int32} (h : WR n c a w) : ∀ d, d ≤ n → ∃ t, WR (n - d) c t (st w 11 0 (ii (n - d))) := by
  intro d
  induction d with
  | zero =>
    intro _
    refine ⟨a, h.keepA ⟨fun j hj => by rw [st_o (by decide)], fun q x y j hj => by rw [st_o (by omega)], fun q x y j hj => by rw [st_o (by omega)], fun j hj => by rw [st_o (by decide)], ?_⟩⟩
    rw [st_rd, h.w11]; rfl
  | succ d ih =>
    intro hd
    obtain ⟨t, ht⟩ := ih (by omega)
    obtain ⟨-, t2⟩ := ht.takeTop (u := st w 11 0 (ii (n - (d + 1)))) (by omega) (fun q a b => by rw [st_o (by omega), st_o (by omega)]) (by rw [st_rd]; congr 1)
    exact ⟨_, t2⟩
theorem e_highM {w : Nat → Nat → Int32} {a : Nat → Nat → Int32} {n : Nat} {c : Nat → Nat} (h : WR n c a w) (hn : n ≤ 11) {i : Nat} (hi : i < 2) : ∀ (m k : Nat) (U : Nat → Nat → Int32), k ≤ n → n - k < m → U 11 0 = ii (k + 1) → (∀ q, q ≠ 11 → q ≠ 23 → q ≠ 24 → U q = w q) → (∀ j, j ≠ 0 → U 11 j = w 11 j) → (sX7_high_25 w (ii i) m (gh (HB w i) k) U).1 = gh (HB w i) n ∧ ∀ q, q ≠ 23 → q ≠ 24 → (sX7_high_25 w (ii i) m (gh (HB w i) k) U).2 q = w q := by
  intro m
  induction m with
  | zero => intro k U _ h; omega
  | succ m ih =>
    intro k U hk hm h11 hU1 hU2
    rw [sX7_high_25, h11, h.w11]
    by_cases d : n ≤ k
    · have e : k = n := by omega
      subst e
      rw [if_pos ((ii_lt (by omega) (by omega)).mpr (by omega))]
      simp only [bns]
      refine ⟨trivial, ?_⟩
      rw [← h.w11]
      exact row0_back hU1 hU2
    · rw [if_neg (fun q => by have := (ii_lt (by omega) (by omega)).mp q; omega)]
      simp only [bns, bnd]
      obtain ⟨t, ht⟩ := h.less (n - (k + 1)) (by omega)
      rw [show n - (n - (k + 1)) = k + 1 by omega] at ht
      have hU : WR (k + 1) c t U := ht.keepA ⟨fun j hj => by rw [hU1 1 (by decide) (by decide) (by decide), st_o (by decide)], fun q x y j hj => by rw [hU1 q (by omega) (by omega) (by omega), st_o (by omega)], fun q x y j hj => by rw [hU1 q (by omega) (by omega) (by omega), st_o (by omega)], fun j hj => by rw [hU1 10 (by decide) (by decide) (by decide), st_o (by decide)], by rw [st_rd, h11]⟩
      obtain ⟨g1, g2⟩ := hU.doesHold hi
      obtain ⟨g3, -⟩ := ht.doesHold hi
      rw [← g3] at g1
      have w11 : (sX7_doesHold U (ii i)).2 11 0 = ii (k + 1) := by rw [g2 11 (by decide) (by decide), h11]
      have r1 : ∀ z, (∀ q, q ≠ 11 → q ≠ 23 → q ≠ 24 → st (sX7_doesHold U (ii i)).2 11 0 z q = w q) := fun z q a b e => by rw [st_o a, g2 q b e, hU1 q a b e]
      have r2 : ∀ z, (∀ j, j ≠ 0 → st (sX7_doesHold U (ii i)).2 11 0 z 11 j = w 11 j) := fun z j hj => by
        rw [st_s]
        unfold upd
        rw [if_neg hj, g2 11 (by decide) (by decide)]
        exact hU2 j hj
      rw [g1, w11, ii_s]
      by_cases f : (sX7_doesHold (st w 11 0 (ii (k + 1))) (ii i)).1 = 0
      · have eg : gh (HB w i) (k + 1) = gh (HB w i) k := by rw [gh, if_neg (by unfold HB; simp [f])]
        rw [if_pos f, ← eg]
        exact ih (k + 1) _ (by omega) (by omega) st_rd (r1 _) (r2 _)
      · have eg : gh (HB w i) (k + 1) = ii (k + 1) := by rw [gh, if_pos (by unfold HB; simp [f])]
        rw [if_neg f, ← eg]
        exact ih (k + 1) _ (by omega) (by omega) st_rd (r1 _) (r2 _)
theorem S_high {W : Nat → Nat → Nat → Int32} {w : Nat → Nat → Int32} (h : REL W w) (x : Int32) : OK (sX6_high W x) (sX7_high w x) := by
  obtain ⟨⟨n, c, gW⟩, gF, gL, gR, gI, gS⟩ := id h
  unfold sX6_high sX7_high
  rcases way_c (W 0) x with ⟨i, hi, rfl, e1, e2⟩ | ⟨e1, e2⟩
  · rw [e1, e2, if_neg n10, if_neg n10]
    simp only [bns]
    have hn := gW.1
    obtain ⟨a1, a2⟩ := e_highC (w := w) (W := W) (c := c) hi 13 n (sc W 1 (sX4_become (W 1) (W 0))) (by omega) (by omega) ((T1.rf W).sc _) (by
      rw [sc_s]
      refine (gW.2.1.become _).keepA ⟨fun j hj => by rw [st_o (by decide)], fun q x y j hj => by rw [st_o (by omega)], fun q x y j hj => by rw [st_o (by omega)], fun j hj => by rw [st_o (by decide)], ?_⟩
      rw [st_rd, gW.2.1.w11])
    obtain ⟨b1, b2⟩ := e_highM gW.2.1 gW.1 hi 13 0 (st w 11 0 1) (by omega) (by omega) (by rw [st_rd]; rfl) (fun q a b d => st_o a) (fun j hj => by rw [st_s]; unfold upd; rw [if_neg hj])
    rw [sc_o (show ¬ 0 = 1 by decide), gW.2.1.a6]
    exact ⟨a1.trans b1.symm, h.t1 (SQ.find b2) a2⟩
  · rw [e1, e2, if_pos z00, if_pos z00]
    exact OK.no (h.refuse m1 (by omega) (by omega))
/-! what is put back -/
theorem e_back1 {w U : Nat → Nat → Int32} (h19 : U 19 = sX7_passesAll w 1 1 19) (hr : ∀ q, 1 ≤ q → q ≤ 10 → ∀ j, lnr q ≤ j → U q j = w q j) (h11 : ∀ j, j ≠ 0 → U 11 j = w 11 j) (ho : ∀ q, (q = 0 ∨ 12 ≤ q) → q ≠ 19 → q ≠ 21 → q ≠ 22 → q ≠ 23 → q ≠ 24 → q ≠ 28 → U q = w q) : SQ (sX7_passesAll U 1 0) w := by
  obtain ⟨p1, p2, p3, p4⟩ := pa_rest U 1 (by omega)
  obtain ⟨s1, s2, s3⟩ := pa_save w 1 (by omega)
  have e0 : sX7_passesAll U (ii 1) 0 = sX7_passesAll U 1 0 := rfl
  have e1 : sX7_passesAll w (ii 1) 1 = sX7_passesAll w 1 1 := rfl
  rw [e0] at p1 p2 p3 p4
  rw [e1] at s1 s2 s3
  refine ⟨fun q a1 a2 a3 a4 a5 a6 a7 a8 a9 a10 => ?_, fun j hj => ?_⟩
  · by_cases c1 : q = 0 ∨ 12 ≤ q
    · rw [p1 q c1 a5 a6, ho q c1 a4 a5 a6 a7 a8 a10]
    · by_cases c2 : q = 11
      · subst c2
        funext j
        by_cases c3 : j = 0
        · subst c3; rw [p3, h19, s2]
        · rw [p4 j c3, h11 j c3]
      · funext j
        rw [p2 q (by omega) (by omega) j, h19]
        by_cases c3 : j < lnr q
        · rw [if_pos c3, s1 q (by omega) (by omega) j c3]
        · rw [if_neg c3, hr q (by omega) (by omega) j (by omega)]
  · rw [p1 19 (by omega) (by decide) (by decide), h19, s3 j (by omega)]
theorem lnr12 {q : Nat} (h1 : 2 ≤ q) (h2 : q ≤ 6) : lnr q = 12 := by
  rcases (show q = 2 ∨ q = 3 ∨ q = 4 ∨ q = 5 ∨ q = 6 by omega) with rfl | rfl | rfl | rfl | rfl <;> rfl
/-! how it should lean -/
theorem e_held (v : Int32) : (if (-5) < (if v < 5 then v else 5) then (if v < 5 then v else 5) else (-5)) = sX7_heldLean v ∧ rg (sX7_heldLean v) (-5) 5 := by
  unfold sX7_heldLean
  by_cases c1 : v < 5
  · have f1 := i_lt c1
    rw [q_5] at f1
    rw [if_pos c1]
    by_cases c2 : (-5 : Int32) ≤ v
    · have f2 := i_le c2
      rw [q_m5] at f2
      rw [if_pos c2, if_pos (Int32.le_iff_toInt_le.mpr (by rw [q_5]; omega))]
      refine ⟨?_, f2, by omega⟩
      by_cases c3 : (-5 : Int32) < v
      · rw [if_pos c3]
      · have f3 := i_nlt c3
        rw [q_m5] at f3
        rw [if_neg c3]
        apply Int32.toInt_inj.mp
        rw [q_m5]; omega
    · have f2 := i_nle c2
      rw [q_m5] at f2
      rw [if_neg c2, if_neg (fun q => by have := i_lt q; rw [q_m5] at this; omega)]
      exact ⟨rfl, by rw [q_m5]; omega, by rw [q_m5]; omega⟩
  · have f1 := i_nlt c1
    rw [q_5] at f1
    rw [if_neg c1, if_pos (show (-5 : Int32) < 5 by decide), if_pos (Int32.le_iff_toInt_le.mpr (by rw [q_m5]; omega))]
    by_cases c2 : v ≤ 5
    · have f2 := i_le c2
      rw [q_5] at f2
      rw [if_pos c2]
      refine ⟨?_, by omega, f2⟩
      apply Int32.toInt_inj.mp
      rw [q_5]; omega
    · rw [if_neg c2]
      exact ⟨rfl, by rw [q_5]; omega, by rw [q_5]; omega⟩
theorem e_leanMore {n : Nat} (hn : n ≤ 12) (x : Int32) : ∀ m k v, v 6 0 = ii n → k ≤ n → n - k < m → (∀ q, q ≠ 3 → sX4_leanMore_2 x m (ii k) v q = v q) ∧ ∀ j, sX4_leanMore_2 x m (ii k) v 3 j = if k ≤ j ∧ j < n then sX7_heldLean (v 3 j + x) else v 3 j := by
  intro m
  induction m with
  | zero => intro k v _ _ h; omega
  | succ m ih =>
    intro k v h6 hk hm
    rw [sX4_leanMore_2, h6, ifle (by omega) (by omega)]
    by_cases d : n ≤ k
    · rw [if_pos d]
      exact ⟨fun _ _ => rfl, fun j => by rw [if_neg (by omega)]⟩
    · rw [if_neg d, ii_n (by omega), ii_s, (e_held _).1]
      simp only [bns]
      obtain ⟨g1, g2⟩ := ih (k + 1) (st v 3 k (sX7_heldLean (v 3 k + x))) (by rw [st_o (by decide)]; exact h6) (by omega) (by omega)
      refine ⟨fun q hq => by rw [g1 q hq, st_o hq], fun j => ?_⟩
      rw [g2 j, st_s]
      unfold upd
      by_cases f : j = k
      · subst f; rw [if_neg (by omega), if_pos rfl, if_pos (by omega)]
      · by_cases g : k + 1 ≤ j ∧ j < n
        · rw [if_pos g, if_neg f, if_pos (by omega)]
        · rw [if_neg g, if_neg f, if_neg (by omega)]
theorem WR.lean {n : Nat} {c : Nat → Nat} {a w u : Nat → Nat → Int32} (h : WR n c a w) (x : Int32) (hu : ∀ q, 1 ≤ q → q ≤ 11 → q ≠ 5 → u q = w q) (h5 : ∀ j, j < n → u 5 j = sX7_heldLean (w 5 j + x)) : WR n c (sX4_leanMore a x) u := by
  have hn := h.n
  obtain ⟨b1, b2⟩ := e_leanMore hn x 13 0 a h.a6 (by omega) (by omega)
  show WR n c (sX4_leanMore_2 x 13 (ii 0) a) u
  have ewt : wt u = wt w := by funext k; unfold wt; rw [hu 2 (by omega) (by omega) (by omega), hu 3 (by omega) (by omega) (by omega)]
  refine ⟨hn, by rw [b1 6 (by decide)]; exact h.a6, by rw [hu 11 (by omega) (by omega) (by omega)]; exact h.w11, fun j hj => ?_, fun i hi => ?_, fun j hj => ?_, ?_, ?_, ?_, ?_⟩
  · obtain ⟨g0, g1, g2, g3, g4, g5⟩ := h.L hj
    unfold LR
    rw [ewt, b1 0 (by decide), b1 1 (by decide), b1 2 (by decide), b1 4 (by decide), b1 5 (by decide), b2 j, if_pos (by omega), h5 j hj, hu 2 (by omega) (by omega) (by omega), hu 3 (by omega) (by omega) (by omega), hu 4 (by omega) (by omega) (by omega), hu 6 (by omega) (by omega) (by omega), g3.1]
    exact ⟨g0, g1, g2, ⟨rfl, (e_held _).2⟩, g4, g5⟩
  · have y := h.Y hi
    unfold YR at y ⊢
    rw [b1 _ (by omega), b1 _ (by omega), b1 _ (by omega), b1 _ (by omega), hu 7 (by omega) (by omega) (by omega), hu 8 (by omega) (by omega) (by omega), hu 9 (by omega) (by omega) (by omega), hu 10 (by omega) (by omega) (by omega)]
    exact y
  · rw [b1 7 (by decide), hu 1 (by omega) (by omega) (by omega)]; exact h.S hj
  · rw [hu 1 (by omega) (by omega) (by omega)]; exact h.s0
  · rw [hu 1 (by omega) (by omega) (by omega)]; exact h.s1
  · rw [hu 1 (by omega) (by omega) (by omega)]; exact h.s2
  · rw [hu 1 (by omega) (by omega) (by omega)]; exact h.s3
theorem e_marginBy8 {n : Nat} (hn : n ≤ 12) (a1 x : Int32) : ∀ m k U, U 11 0 = ii n → k ≤ n → n - k < m → ∃ F, sX7_marginBy_8 a1 x m (ii k) U = (sX7_marginOf F a1, sX7_passesAll F 1 0) ∧ (∀ q, q ≠ 5 → F q = U q) ∧ ∀ j, F 5 j = if k ≤ j ∧ j < n then sX7_heldLean (U 5 j + x) else U 5 j := by
  intro m
  induction m with
  | zero => intro k v _ _ h; omega
  | succ m ih =>
    intro k U h11 hk hm
    rw [sX7_marginBy_8, h11, ifle (by omega) (by omega)]
    by_cases d : n ≤ k
    · rw [if_pos d]
      exact ⟨U, rfl, fun _ _ => rfl, fun j => by rw [if_neg (by omega)]⟩
    · rw [if_neg d, ii_n (by omega), ii_s]
      simp only [bns]
      obtain ⟨F, g0, g1, g2⟩ := ih (k + 1) (st U 5 k (sX7_heldLean (U 5 k + x))) (by rw [st_o (by decide)]; exact h11) (by omega) (by omega)
      refine ⟨F, g0, fun q hq => by rw [g1 q hq, st_o hq], fun j => ?_⟩
      rw [g2 j, st_s]
      unfold upd
      by_cases f : j = k
      · subst f; rw [if_neg (by omega), if_pos rfl, if_pos (by omega)]
      · by_cases g : k + 1 ≤ j ∧ j < n
        · rw [if_pos g, if_neg f, if_pos (by omega)]
        · rw [if_neg g, if_neg f, if_neg (by omega)]
theorem WR.marginBy {n : Nat} {c : Nat → Nat} {a w : Nat → Nat → Int32} (h : WR n c a w) {i : Nat} (hi : i < 2) (x : Int32) : (sX7_marginBy w (ii i) x).1 = sX4_leastMargin (sX4_leanMore a x) (ii i) ∧ SQ (sX7_marginBy w (ii i) x).2 w := by
  have hn := h.n
  have hk : ∀ q, q ≠ 19 → q ≠ 21 → q ≠ 22 → sX7_passesAll w 1 1 q = w q := fun q a b d => iX7_save q a b d
  obtain ⟨F, g0, g1, g2⟩ := e_marginBy8 hn (ii i) x 13 0 (sX7_passesAll w 1 1) (by rw [hk 11 (by decide) (by decide) (by decide)]; exact h.w11) (by omega) (by omega)
  have e : sX7_marginBy w (ii i) x = (sX7_marginOf F (ii i), sX7_passesAll F 1 0) := by
    unfold sX7_marginBy
    simp only [bns]
    exact g0
  rw [e]
  have hF : WR n c (sX4_leanMore a x) F := h.lean x (fun q a b d => by rw [g1 q d, hk q (by omega) (by omega) (by omega)]) (fun j hj => by rw [g2 j, if_pos (by omega), hk 5 (by decide) (by decide) (by decide)])
  refine ⟨(hF.margin hi).symm, e_back1 (g1 19 (by decide)) (fun q a b j hj => ?_) (fun j hj => by rw [g1 11 (by decide), hk 11 (by decide) (by decide) (by decide)]) (fun q a b d e _ _ _ => by rw [g1 q (by omega), hk q b d e])⟩
  by_cases f : q = 5
  · subst f
    have : lnr 5 = 12 := rfl
    rw [g2 j, if_neg (by omega), hk 5 (by decide) (by decide) (by decide)]
  · rw [g1 q f, hk q (by omega) (by omega) (by omega)]
theorem SQ.wr {n : Nat} {c : Nat → Nat} {a w u : Nat → Nat → Int32} (h : WR n c a w) (hs : SQ u w) : WR n c a u := h.keep (fun q a b => hs.1 q (by omega) (by omega) (by omega) (by omega) (by omega) (by omega) (by omega) (by omega) (by omega) (by omega))
theorem e_leaning {W : Nat → Nat → Nat → Int32} {w : Nat → Nat → Int32} {n : Nat} {c : Nat → Nat} (h : WR n c (W 0) w) {i : Nat} (hi : i < 2) : ∀ (m : Nat) (x y : Int32) (V : Nat → Nat → Nat → Int32) (U : Nat → Nat → Int32), -4 ≤ y.toInt → y.toInt ≤ 6 → 6 - y.toInt < m → T1 V W → SQ U w → (sX6_leaning_27 (ii i) m x (sX7_marginBy w (ii i) x).1 y V).1 = (sX7_leaning_19 (ii i) m x y U).1 ∧ T1 (sX6_leaning_27 (ii i) m x (sX7_marginBy w (ii i) x).1 y V).2 W ∧ SQ (sX7_leaning_19 (ii i) m x y U).2 w := by
  intro m
  induction m with
  | zero => intro x y V U h1 h2 h3; omega
  | succ m ih =>
    intro x y V U h1 h2 h3 hT hS
    rw [sX6_leaning_27, sX7_leaning_19]
    by_cases d : 5 < y
    · have := i_lt d
      rw [q_5] at this
      rw [if_pos d, if_pos (Int32.le_iff_toInt_le.mpr (by rw [q_6]; omega))]
      exact ⟨rfl, hT, hS⟩
    · have d1 := i_nlt d
      rw [q_5] at d1
      rw [if_neg d, if_neg (fun q => by have := i_le q; rw [q_6] at this; omega)]
      simp only [bns, bnd]
      have hb : WR n c (sX4_become (V 1) (V 0)) w := by rw [hT 0 (by decide)]; exact h.become _
      have hM : ∀ z U', SQ U' w → (sX7_marginBy U' (ii i) z).1 = (sX7_marginBy w (ii i) z).1 ∧ SQ (sX7_marginBy U' (ii i) z).2 w := fun z U' hU' => by
        have e1 := (SQ.wr h hU').marginBy hi z
        exact ⟨by rw [e1.1, (h.marginBy hi z).1], e1.2.tr hU'⟩
      obtain ⟨a1, a2⟩ := hM y U hS
      obtain ⟨b1, b2⟩ := hM x _ a2
      rw [sc_s, sc_s, ← (hb.marginBy hi y).1, a1, b1]
      have e := i_addr (a := y) (b := 1) q_1 (by omega) (by omega)
      have hT2 := (hT.sc (sX4_become (V 1) (V 0))).sc (sX4_leanMore (sX4_become (V 1) (V 0)) y)
      by_cases f : (sX7_marginBy w (ii i) y).1 ≤ (sX7_marginBy w (ii i) x).1
      · rw [if_pos f, if_pos f]
        exact ih x (y + 1) _ _ (by omega) (by omega) (by omega) hT2 b2
      · rw [if_neg f, if_neg f]
        exact ih y (y + 1) _ _ (by omega) (by omega) (by omega) hT2 b2
theorem S_leaning {W : Nat → Nat → Nat → Int32} {w : Nat → Nat → Int32} (h : REL W w) (x : Int32) : OK (sX6_leaning W x) (sX7_leaning w x) := by
  obtain ⟨⟨n, c, gW⟩, gF, gL, gR, gI, gS⟩ := id h
  unfold sX6_leaning sX7_leaning
  rcases way_c (W 0) x with ⟨i, hi, rfl, e1, e2⟩ | ⟨e1, e2⟩
  · rw [e1, e2, if_neg n10, if_neg n10]
    have hb : WR n c (sX4_become (W 1) (W 0)) w := gW.2.1.become _
    have hT2 := ((T1.rf W).sc (sX4_become (W 1) (W 0))).sc (sX4_leanMore (sX4_become (W 1) (W 0)) (-5))
    have e4 : (-5 + 1 : Int32) = -4 := by decide
    have qm : (-4 : Int32).toInt = -4 := q_m4
    obtain ⟨a1, a2, a3⟩ := e_leaning gW.2.1 hi 11 (-5) (-4) _ w (by omega) (by omega) (by omega) hT2 (SQ.rf w)
    have key : sX6_leaning_27 (ii i) 12 (-5) (-2147483648) (-5) W = sX6_leaning_27 (ii i) 11 (-5) (sX7_marginBy w (ii i) (-5)).1 (-4) (sc (sc W 1 (sX4_become (W 1) (W 0))) 1 (sX4_leanMore (sX4_become (W 1) (W 0)) (-5))) := by
      rw [sX6_leaning_27, if_neg (show ¬ (5 : Int32) < -5 by decide)]
      simp only [bns]
      rw [sc_s, sc_s, ← (hb.marginBy hi (-5)).1, e4]
      by_cases f : (sX7_marginBy w (ii i) (-5)).1 ≤ -2147483648
      · have fe : (sX7_marginBy w (ii i) (-5)).1 = -2147483648 := by
          apply Int32.toInt_inj.mp
          have := i_le f
          have hb := j_rng (sX7_marginBy w (ii i) (-5)).1
          rw [q_m2147483648] at this ⊢
          omega
        rw [if_pos f, ← fe]
      · rw [if_neg f]
    rw [key]
    exact ⟨a1, h.t1 a3 a2⟩
  · rw [e1, e2, if_pos z00, if_pos z00]
    exact OK.no (h.wide m1 (by omega) (by omega))
