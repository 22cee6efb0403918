/-! the image -/
theorem S_image {W : Nat → Nat → Nat → Int32} {w : Nat → Nat → Int32} (h : REL W w) : OK (sX6_image W) (sX7_image w) := by
  obtain ⟨⟨n, c, g1, g2, g3⟩, gF, gL, gR, gI, gS⟩ := id h
  unfold sX6_image sX7_image
  simp only [bns]
  have k1 : ∀ q, q ≠ 19 → q ≠ 20 → q ≠ 21 → q ≠ 22 → sX7_passesAll (st w 20 0 1) 0 1 q = w q := fun q a b d e => by rw [iX7_save q a d e, st_o b]
  have k20 : sX7_passesAll (st w 20 0 1) 0 1 20 0 = 1 := by rw [iX7_save 20 (by decide) (by decide) (by decide), st_rd]
  obtain ⟨s1, s2, s3⟩ := pa_save (st w 20 0 1) 0 (by omega)
  obtain ⟨p1, p2, p3, p4⟩ := pa_rest (sX7_passesAll (st w 20 0 1) 0 1) 0 (by omega)
  have e0 : sX7_passesAll (st w 20 0 1) (ii 0) 1 = sX7_passesAll (st w 20 0 1) 0 1 := rfl
  have e1 : sX7_passesAll (sX7_passesAll (st w 20 0 1) 0 1) (ii 0) 0 = sX7_passesAll (sX7_passesAll (st w 20 0 1) 0 1) 0 0 := rfl
  rw [e0] at s1 s2
  rw [e1] at p2 p3
  have hin : ∀ q, 1 ≤ q → q ≤ 10 → ∀ j, j < lnr q → sX7_passesAll (sX7_passesAll (st w 20 0 1) 0 1) 0 0 q j = w q j := fun q a b j hj => by
    rw [p2 q a b j, if_pos hj, s1 q a b j hj, st_o (by omega)]
  have hAG : AG n (sX7_passesAll (sX7_passesAll (st w 20 0 1) 0 1) 0 0) w := by
    have hn := g2.n
    refine ⟨fun j hj => hin 1 (by omega) (by omega) j hj, fun q a b j hj => ?_, fun q a b j hj => ?_, fun j hj => hin 10 (by omega) (by omega) j hj, ?_⟩
    · have h12 : j < 12 := by omega
      rcases (show q = 2 ∨ q = 3 ∨ q = 4 ∨ q = 5 ∨ q = 6 by omega) with rfl | rfl | rfl | rfl | rfl <;> exact hin _ (by omega) (by omega) j h12
    · rcases (show q = 7 ∨ q = 8 ∨ q = 9 by omega) with rfl | rfl | rfl <;> exact hin _ (by omega) (by omega) j hj
    · rw [p3, s2, st_o (by decide)]
  refine OK.mk ?_ ⟨⟨n, c, g1, ?_, fun j hj => by rw [k1 6 (by decide) (by decide) (by decide) (by decide)]; exact g3 j hj⟩, fun k hk => ?_, gL.keep ?_ (k1 16 (by decide) (by decide) (by decide) (by decide)) (k1 12 (by decide) (by decide) (by decide) (by decide)), gR.keep ?_ (k1 27 (by decide) (by decide) (by decide) (by decide)) (k1 26 (by decide) (by decide) (by decide) (by decide)), ⟨?_, fun _ => ⟨n, c, g1, ?_, fun j hj => ?_⟩⟩, gS.keep (k1 17 (by decide) (by decide) (by decide) (by decide)) (k1 18 (by decide) (by decide) (by decide) (by decide))⟩
  · rw [sc_o (by decide), sc_o (by decide), g2.a6, k1 11 (by decide) (by decide) (by decide) (by decide), g2.w11]
  · rw [sc_o (by decide), sc_o (by decide)]
    exact g2.keep (fun q a b => k1 q (by omega) (by omega) (by omega) (by omega))
  · rw [sc_s, st_o (by decide), sc_o (by decide), k1 0 (by decide) (by decide) (by decide) (by decide)]
    exact gF k hk
  · rw [sc_o (by decide), sc_o (by decide)]
  · rw [sc_o (by decide), sc_o (by decide)]
  · rw [sc_s, st_rd, k20]
  · rw [sc_o (by decide), sc_s]
    exact (g2.keepA hAG).become _
  · rw [hin 6 (by omega) (by omega) j hj]
    exact g3 j hj
theorem S_on {W : Nat → Nat → Nat → Int32} {w : Nat → Nat → Int32} (h : REL W w) : OK (sX6_on W) (sX7_on w) := by
  obtain ⟨gW, gF, gL, gR, gI, gS⟩ := id h
  obtain ⟨i1, i2⟩ := id gI
  unfold sX6_on sX7_on
  rw [i1]
  by_cases d : w 20 0 = 0
  · rw [if_pos d, if_pos d]
    exact OK.no (h.refuse m3 (by omega) (by omega))
  · rw [if_neg d, if_neg d]
    simp only [bns]
    obtain ⟨n, c, g1, g2, g3⟩ := i2 d
    obtain ⟨p1, p2, p3, p4⟩ := pa_rest w 0 (by omega)
    have k1 : ∀ q, (q = 0 ∨ 12 ≤ q) → q ≠ 21 → q ≠ 22 → sX7_passesAll w 0 0 q = w q := p1
    rw [sc_s]
    refine OK.mk ?_ ⟨⟨n, c, g1, ?_, g3⟩, gF.keep (sc_o (by decide)) (k1 0 (by omega) (by decide) (by decide)), gL.keep (sc_o (by decide)) (k1 16 (by omega) (by decide) (by decide)) (k1 12 (by omega) (by decide) (by decide)), gR.keep (sc_o (by decide)) (k1 27 (by omega) (by decide) (by decide)) (k1 26 (by omega) (by decide) (by decide)), gI.keep (sc_o (by decide)) (by rw [sc_o (by decide)]) (fun j _ => by rw [k1 19 (by omega) (by decide) (by decide)]) (by rw [k1 20 (by omega) (by decide) (by decide)]), gS.keep (k1 17 (by omega) (by decide) (by decide)) (k1 18 (by omega) (by decide) (by decide))⟩
    · rw [(g2.become (W 0)).a6, g2.w11]
    · rw [sc_s]
      exact g2.become (W 0)
theorem S_count {W : Nat → Nat → Nat → Int32} {w : Nat → Nat → Int32} (h : REL W w) (x : Int32) : sX6_count W x = sX7_count w x := by
  obtain ⟨⟨n, c, g1, g2, g3⟩, gF, ⟨t, t1, t2, t3, t4⟩, ⟨r, r1, r2, r3, r4⟩, gI, gS⟩ := id h
  unfold sX6_count sX7_count
  have q11 : (11 : Int32).toInt = 11 := by decide
  have q16 : (16 : Int32).toInt = 16 := by decide
  rcases isIn_c x 11 16 with ⟨a, b, e⟩ | ⟨a, e⟩
  · have a1 := i_le a
    have b1 := i_le b
    rw [q11] at a1
    rw [q16] at b1
    have hne : ∀ (z : Int32) (m : Int), z.toInt = m → m < 11 → ¬ x = z := fun z m hz hm q => by rw [q, hz] at a1; omega
    rw [e, if_neg n10, if_neg (hne 0 0 q_0 (by omega)), if_neg (hne 1 1 q_1 (by omega)), if_neg (hne 2 2 q_2 (by omega)), if_neg (hne 3 3 q_3 (by omega)), if_neg (hne 4 4 q_4 (by omega)), if_neg (hne 5 5 q_5 (by omega)), if_neg (hne 6 6 q_6 (by omega)), if_neg (hne 7 7 q_7 (by omega)), if_neg (hne 8 8 q_8 (by omega)), if_neg (hne 9 9 q_9 (by omega)), if_neg (fun q => by have := i_lt q; omega), if_neg (fun q => by have := i_lt q; omega)]
    have e2 := i_subr (a := x) (b := 10) q_10 (by omega) (by omega)
    have e3 := ix_cl (x := x - 10) (by omega)
    exact gF _ (by omega)
  · rw [e, if_pos z00]
    by_cases d0 : x = 0
    · rw [if_pos d0, if_pos d0, g2.a6, g2.w11]
    rw [if_neg d0, if_neg d0]
    by_cases d1 : x = 1
    · rw [if_pos d1, if_pos d1, d1]
      exact ((g2.Y (i := 0) (by omega)).2.1).trans (g2.Y (i := 0) (by omega)).2.2.1.symm
    rw [if_neg d1, if_neg d1]
    by_cases d2 : x = 2
    · rw [if_pos d2, if_pos d2, d2]
      exact ((g2.Y (i := 1) (by omega)).2.1).trans (g2.Y (i := 1) (by omega)).2.2.1.symm
    rw [if_neg d2, if_neg d2]
    by_cases d3 : x = 3
    · rw [if_pos d3, if_pos d3]; exact g2.height
    rw [if_neg d3, if_neg d3]
    by_cases d4 : x = 4
    · rw [if_pos d4, if_pos d4]; exact g2.width
    rw [if_neg d4, if_neg d4]
    by_cases d5 : x = 5
    · rw [if_pos d5, if_pos d5]
      have hn := g2.n
      unfold sX4_allWeight sX7_allWeight
      rw [g2.a6, g2.w11]
      by_cases f : ii n = 0
      · rw [if_pos f, if_pos f]
      · rw [if_neg f, if_neg f]
        have hn0 : 0 < n := by
          refine Classical.byContradiction fun q => f ((ii_0 (by omega)).mpr (by omega))
        have e0 : (0 : Int32) = ii 0 := rfl
        rw [e0, e_load g2.w11 hn (by omega)]
        exact (g2.L hn0).2.2.2.2.2
    rw [if_neg d5, if_neg d5]
    by_cases d6 : x = 6
    · rw [if_pos d6, if_pos d6]; exact g2.sheaves
    rw [if_neg d6, if_neg d6]
    by_cases d7 : x = 7
    · rw [if_pos d7, if_pos d7]; exact g2.S (by omega)
    rw [if_neg d7, if_neg d7]
    by_cases d8 : x = 8
    · rw [if_pos d8, if_pos d8, r2, r3]
    rw [if_neg d8, if_neg d8]
    by_cases d9 : x = 9
    · rw [if_pos d9, if_pos d9, t2, t3]
    rw [if_neg d9, if_neg d9]
    rcases a with a | a
    · rw [if_pos a]
    · have a1 := i_lt a
      rw [q16] at a1
      rw [if_neg (fun q => by have := i_lt q; omega), if_pos a]
/-! what is asked of the trial -/
def T1 (V W : Nat → Nat → Nat → Int32) : Prop := ∀ k, k ≠ 1 → V k = W k
theorem T1.sc {V W : Nat → Nat → Nat → Int32} (h : T1 V W) (v : Nat → Nat → Int32) : T1 (sc V 1 v) W := fun k hk => by rw [sc_o hk]; exact h k hk
theorem T1.rf (W : Nat → Nat → Nat → Int32) : T1 W W := fun _ _ => rfl
theorem REL.t1 {W V : Nat → Nat → Nat → Int32} {w u : Nat → Nat → Int32} (h : REL W w) (hs : SQ u w) (hT : T1 V W) : REL V u := h.sq hs (hT 0 (by decide)) (hT 2 (by decide)) (hT 3 (by decide)) (hT 4 (by decide)) (hT 5 (by decide))
theorem e_mone (k : Nat) : ii (k + 1) + -1 = ii k := by
  have e2 : ii (k + 1) - 1 = ii k := ii_b (k := k + 1) (j := 1) (by omega)
  rw [← e2, Int32.sub_eq_add_neg]
theorem e_farOut {W : Nat → Nat → Nat → Int32} {w : Nat → Nat → Int32} {n : Nat} {c : Nat → Nat} {i k : Nat} (hi : i < 2) (hk : k < n) : ∀ (m d : Nat) (V : Nat → Nat → Nat → Int32) (U : Nat → Nat → Int32), d ≤ 10 → d < m → T1 V W → WR n c (V 1) U → (∀ q, q ≠ 4 → q ≠ 23 → q ≠ 24 → U q = w q) → (∀ j, j ≠ k → U 4 j = w 4 j) → (sX6_farOut_42 (ii i) (ii k) m (ii d + -1) V).1 = (sX7_farOut_36 w (ii i) (ii k) m (-9) (ii d + -1) U).1 ∧ T1 (sX6_farOut_42 (ii i) (ii k) m (ii d + -1) V).2 W ∧ SQ (sX7_farOut_36 w (ii i) (ii k) m (-9) (ii d + -1) U).2 w := by
  have back : ∀ U : Nat → Nat → Int32, (∀ q, q ≠ 4 → q ≠ 23 → q ≠ 24 → U q = w q) → (∀ j, j ≠ k → U 4 j = w 4 j) → SQ (st U 4 k (w 4 k)) w := fun U h1 h2 => SQ.find (fun q a b => by
    by_cases e : q = 4
    · subst e
      funext j
      rw [st_s]
      unfold upd
      split
      · rename_i f; rw [f]
      · rename_i f; exact h2 j f
    · rw [st_o e, h1 q e a b])
  intro m
  induction m with
  | zero => intro d V U _ h; omega
  | succ m ih =>
    intro d V U hd hm hT hWR hU1 hU2
    have hn := hWR.n
    cases d with
    | zero =>
      have l : (ii 0 + -1 : Int32) < 0 := by decide
      rw [sX6_farOut_42, sX7_farOut_36, if_pos l, if_pos l, ii_n (by omega)]
      simp only [bns]
      exact ⟨trivial, hT, back U hU1 hU2⟩
    | succ d =>
      rw [e_mone, sX6_farOut_42, sX7_farOut_36, if_neg (ii_nn (by omega)), if_neg (ii_nn (by omega)), if_neg (show ¬ (0 : Int32) ≤ -9 by decide), ii_n (by omega)]
      simp only [bns, bnd]
      have hW2 : WR n c (st (V 1) 2 k (ii d)) (st U 4 k (ii d)) := hWR.out hk ⟨by rw [ii_t (by omega)]; omega, by rw [ii_t (by omega)]; omega⟩
      obtain ⟨g1, g2⟩ := hW2.doesHold hi
      rw [sc_s, g1]
      have hU1' : ∀ q, q ≠ 4 → q ≠ 23 → q ≠ 24 → (sX7_doesHold (st U 4 k (ii d)) (ii i)).2 q = w q := fun q a b e => by rw [g2 q b e, st_o a, hU1 q a b e]
      have hU2' : ∀ j, j ≠ k → (sX7_doesHold (st U 4 k (ii d)) (ii i)).2 4 j = w 4 j := fun j hj => by
        rw [g2 4 (by decide) (by decide), st_s]
        unfold upd
        rw [if_neg hj]
        exact hU2 j hj
      by_cases f : sX4_holds (st (V 1) 2 k (ii d)) (ii i) = 0
      · rw [if_pos f, if_pos f]
        exact ih d (sc V 1 (st (V 1) 2 k (ii d))) _ (by omega) (by omega) (hT.sc _) (by rw [sc_s]; exact hW2.keep (fun q a b => g2 q (by omega) (by omega))) hU1' hU2'
      · rw [if_neg f, if_neg f]
        cases m with
        | zero => omega
        | succ m =>
          rw [sX7_farOut_36, if_pos (ii_0le (k := d) (by omega)), ii_n (by omega)]
          simp only [bns]
          have e1 : ∀ (P : Prop) [Decidable P] (z : Int32 × (Nat → Nat → Int32)), (if P then z else z) = z := fun P _ z => by split <;> rfl
          rw [e1]
          exact ⟨rfl, hT.sc _, back _ hU1' hU2'⟩
theorem S_farOut {W : Nat → Nat → Nat → Int32} {w : Nat → Nat → Int32} (h : REL W w) (x y : Int32) : OK (sX6_farOut W x y) (sX7_farOut w x y) := by
  obtain ⟨⟨n, c, gW⟩, gF, gL, gR, gI, gS⟩ := id h
  unfold sX6_farOut sX7_farOut
  rcases way_c (W 0) x with ⟨i, hi, rfl, e1, e2⟩ | ⟨e1, e2⟩
  · rcases layer_c gW.2.1 y with ⟨k, hk, rfl, f1, f2⟩ | ⟨f1, f2⟩
    · rw [e1, e2, if_neg n10, if_neg n10, f1, f2, if_neg n10, if_neg n10]
      simp only [bns]
      obtain ⟨a1, a2, a3⟩ := e_farOut (W := W) (w := w) hi hk 11 10 (sc W 1 (sX4_become (W 1) (W 0))) w (by omega) (by omega) ((T1.rf W).sc _) (by rw [sc_s]; exact gW.2.1.become _) (fun _ _ _ _ => rfl) (fun _ _ => rfl)
      have e9 : (ii 10 + -1 : Int32) = 9 := by decide
      rw [e9] at a1 a2 a3
      exact ⟨a1, h.t1 a3 a2⟩
    · rw [e1, e2, if_neg n10, if_neg n10, f1, f2, if_pos z00, if_pos z00]
      exact OK.no (h.refuse m1 (by omega) (by omega))
  · rw [e1, e2, if_pos z00, if_pos z00]
    exact OK.no (h.refuse m1 (by omega) (by omega))
