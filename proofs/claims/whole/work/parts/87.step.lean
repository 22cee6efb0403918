/-! parts that stay -/
theorem IW.keep {n : Nat} {c : Nat → Nat} {a b w u : Nat → Nat → Int32} (h : IW n c a w) (hb : b = a) (hu : ∀ q, 1 ≤ q → q ≤ 11 → u q = w q) : IW n c b u := by
  subst hb
  exact ⟨h.1, h.2.1.keep hu, fun j hj => by rw [hu 6 (by omega) (by omega)]; exact h.2.2 j hj⟩
theorem FT.keep {W V : Nat → Nat → Nat → Int32} {w u : Nat → Nat → Int32} (h : FT W w) (hV : V 5 = W 5) (hu : u 0 = w 0) : FT V u := fun k hk => by rw [hV, hu]; exact h k hk
theorem LT.keep {W V : Nat → Nat → Nat → Int32} {w u : Nat → Nat → Int32} (h : LT W w) (hV : V 3 = W 3) (h16 : u 16 = w 16) (h12 : u 12 = w 12) : LT V u := by
  obtain ⟨t, t1, t2, t3, t4⟩ := h
  exact ⟨t, t1, by rw [hV]; exact t2, by rw [h16]; exact t3, fun j hj => by rw [hV, h12]; exact t4 j hj⟩
theorem RT.keep {W V : Nat → Nat → Nat → Int32} {w u : Nat → Nat → Int32} (h : RT W w) (hV : V 4 = W 4) (h27 : u 27 = w 27) (h26 : u 26 = w 26) : RT V u := by
  obtain ⟨t, t1, t2, t3, t4⟩ := h
  exact ⟨t, t1, by rw [hV]; exact t2, by rw [h27]; exact t3, fun j hj => by rw [hV, h26]; exact t4 j hj⟩
theorem ST7.keep {w u : Nat → Nat → Int32} (h : ST7 w) (h17 : u 17 = w 17) (h18 : u 18 = w 18) : ST7 u := by
  unfold ST7
  rw [h17, h18]
  exact h
theorem nar_all : ∀ k, k < 256 → vp_nar .char (((ii k).toUInt32 % 65536).toInt32) = ii k := by decide +kernel
theorem S_letter {W : Nat → Nat → Nat → Int32} {w : Nat → Nat → Int32} (h : REL W w) (x : Int32) : OK (sX6_letter W x) (sX7_letter w x) := by
  obtain ⟨⟨n, c, gW⟩, gF, ⟨t, t1, t2, t3, t4⟩, gR, gI, gS⟩ := id h
  have e96 : (96 : Int32) = ii 96 := rfl
  unfold sX6_letter sX7_letter
  rcases bound_c x 0 255 with ⟨a, b, e⟩ | ⟨a, e⟩ | ⟨a, b, e⟩
  · rw [e, if_pos z00, if_pos a, if_neg (fun q => by have := i_lt q; have := i_le b; omega), t2, t3, e96]
    by_cases d : t < 96
    · rw [if_pos ((ii_lt (by omega) (by omega)).mpr d), if_neg (fun q => by have := (ii_inj (by omega) (by omega)).mp q; omega), ii_n (by omega)]
      have b1 := i_le a
      have b2 := i_le b
      rw [q_0] at b1
      rw [q_255] at b2
      have hx := nar_all x.toInt.toNat (by omega)
      rw [← ii_of b1] at hx
      have ea : sX1_add (W 3) ((x.toUInt32 % 65536).toInt32) = st (st (W 3) 0 t x) 1 0 (ii (t + 1)) := by
        unfold sX1_add
        rw [t2, e96, ifle (by omega) (by omega), if_neg (by omega), ii_n (by omega), hx]
        simp only [bns]
        rw [st_o (show ¬ 1 = 0 by decide), t2, ii_s]
      rw [ea]
      simp only [bns]
      rw [st_o (show ¬ 16 = 12 by decide), t3, ii_s, st_rd, sc_s, st_rd]
      refine OK.mk rfl ⟨⟨n, c, gW.keep (sc_o (by decide)) (fun q a b => by rw [st_o (by omega), st_o (by omega)])⟩, gF.keep (sc_o (by decide)) (by rw [st_o (by decide), st_o (by decide)]), ⟨t + 1, by omega, by rw [sc_s, st_rd], by rw [st_rd], fun j hj => ?_⟩, gR.keep (sc_o (by decide)) (by rw [st_o (by decide), st_o (by decide)]) (by rw [st_o (by decide), st_o (by decide)]), gI.keep (sc_o (by decide)) (by rw [sc_o (by decide)]) (fun j hj => by rw [st_o (by decide), st_o (by decide)]) (by rw [st_o (by decide), st_o (by decide)]), gS.keep (by rw [st_o (by decide), st_o (by decide)]) (by rw [st_o (by decide), st_o (by decide)])⟩
      rw [sc_s, st_o (show ¬ 0 = 1 by decide), st_s, st_o (show ¬ 12 = 16 by decide), st_s]
      unfold upd
      by_cases f : j = t
      · rw [if_pos f, if_pos f]; exact ⟨rfl, b1, b2⟩
      · rw [if_neg f, if_neg f]; exact t4 j (by omega)
    · rw [if_neg (fun q => d ((ii_lt (by omega) (by omega)).mp q)), if_pos (by rw [show t = 96 by omega])]
      exact OK.no (h.refuse m6 (by omega) (by omega))
  · rw [e, if_neg n40, if_neg a]
    exact OK.no (h.refuse m4 (by omega) (by omega))
  · rw [e, if_neg n60, if_pos a, if_pos (Int32.lt_iff_toInt_lt.mpr (i_nle b))]
    exact OK.no (h.refuse m6 (by omega) (by omega))
theorem S_layer {W : Nat → Nat → Nat → Int32} {w : Nat → Nat → Int32} (h : REL W w) (x y : Int32) : OK (sX6_layer W x y) (sX7_layer w x y) := by
  obtain ⟨⟨n, c, gW⟩, gF, gL, gR, gI, gS⟩ := id h
  have hn := gW.2.1.n
  unfold sX6_layer sX7_layer
  rcases layer_c gW.2.1 x with ⟨k, hk, rfl, e1, e2⟩ | ⟨e1, e2⟩
  · obtain ⟨⟨l0, -⟩, ⟨l1, -⟩, ⟨l2, -⟩, ⟨l3, -⟩, ⟨l4, -⟩, l5⟩ := gW.2.1.L hk
    have e6 : sX4_weightOf (W 0) (ii k) = wt w k := by
      unfold sX4_weightOf wt
      rw [ii_n (by omega), l0, l1]
    rw [e1, e2, if_neg n10, if_neg n10, ii_n (by omega), l0, l1, l2, l3, l4, l5, e6, e_weight (by omega), e_binding (by omega), e_thick (by omega), e_load gW.2.1.w11 hn (by omega)]
    by_cases d0 : y = 0
    · rw [if_pos d0, if_pos d0]; exact OK.mk rfl h
    rw [if_neg d0, if_neg d0]
    by_cases d1 : y = 1
    · rw [if_pos d1, if_pos d1]; exact OK.mk rfl h
    rw [if_neg d1, if_neg d1]
    by_cases d2 : y = 2
    · rw [if_pos d2, if_pos d2]; exact OK.mk rfl h
    rw [if_neg d2, if_neg d2]
    by_cases d3 : y = 3
    · rw [if_pos d3, if_pos d3]; exact OK.mk rfl h
    rw [if_neg d3, if_neg d3]
    by_cases d4 : y = 4
    · rw [if_pos d4, if_pos d4]; exact OK.mk rfl h
    rw [if_neg d4, if_neg d4]
    by_cases d5 : y = 5
    · rw [if_pos d5, if_pos d5]; exact OK.mk rfl h
    rw [if_neg d5, if_neg d5]
    by_cases d6 : y = 6
    · rw [if_pos d6, if_pos d6]; exact OK.mk rfl h
    rw [if_neg d6, if_neg d6]
    by_cases d7 : y = 7
    · rw [if_pos d7, if_pos d7]; exact OK.mk rfl h
    rw [if_neg d7, if_neg d7]
    exact OK.no (h.wide m2 (by omega) (by omega))
  · rw [e1, e2, if_pos z00, if_pos z00]
    exact OK.no (h.wide m1 (by omega) (by omega))
theorem S_piece {W : Nat → Nat → Nat → Int32} {w : Nat → Nat → Int32} (h : REL W w) (x y z : Int32) : OK (sX6_piece W x y z) (sX7_piece w x y z) := by
  obtain ⟨⟨n, c, gW⟩, gF, gL, gR, gI, gS⟩ := id h
  unfold sX6_piece sX7_piece
  rcases piece_c gW.2.1 x y with ⟨i, p, hi, hp, rfl, rfl, e1, e2⟩ | ⟨e1, e2⟩
  · obtain ⟨y1, y2, y3, y4⟩ := gW.2.1.Y hi
    obtain ⟨⟨l0, -⟩, ⟨l1, -⟩, ⟨l2, -⟩⟩ := y4 p hp
    rw [e1, e2, if_neg n10, if_neg n10, ii_n (by omega), ii_n (by omega), q6p, ii_n (by omega), l0, l1, l2]
    by_cases d0 : z = 0
    · rw [if_pos d0, if_pos d0]; exact OK.mk rfl h
    rw [if_neg d0, if_neg d0]
    by_cases d1 : z = 1
    · rw [if_pos d1, if_pos d1]; exact OK.mk rfl h
    rw [if_neg d1, if_neg d1]
    by_cases d2 : z = 2
    · rw [if_pos d2, if_pos d2]; exact OK.mk rfl h
    rw [if_neg d2, if_neg d2]
    exact OK.no (h.refuse m2 (by omega) (by omega))
  · rw [e1, e2, if_pos z00, if_pos z00]
    exact OK.no (h.refuse m1 (by omega) (by omega))
theorem S_shift {W : Nat → Nat → Nat → Int32} {w : Nat → Nat → Int32} (h : REL W w) (x y z : Int32) : OK (sX6_shift W x y z) (sX7_shift w x y z) := by
  obtain ⟨⟨n, c, gW⟩, gF, gL, gR, gI, gS⟩ := id h
  unfold sX6_shift sX7_shift
  rcases piece_c gW.2.1 x y with ⟨i, p, hi, hp, rfl, rfl, e1, e2⟩ | ⟨e1, e2⟩
  · rcases layer_c gW.2.1 z with ⟨k, hk, rfl, f1, f2⟩ | ⟨f1, f2⟩
    · rw [e1, e2, if_neg n10, if_neg n10, f1, f2, if_neg n10, if_neg n10, q6p, gW.2.1.shift hi hp hk]
      exact OK.mk rfl h
    · rw [e1, e2, if_neg n10, if_neg n10, f1, f2, if_pos z00, if_pos z00]
      exact OK.no (h.refuse m1 (by omega) (by omega))
  · rw [e1, e2, if_pos z00, if_pos z00]
    exact OK.no (h.refuse m1 (by omega) (by omega))
theorem S_slips {W : Nat → Nat → Nat → Int32} {w : Nat → Nat → Int32} (h : REL W w) (x y : Int32) : OK (sX6_slips W x y) (sX7_slips w x y) := by
  obtain ⟨⟨n, c, gW⟩, gF, gL, gR, gI, gS⟩ := id h
  unfold sX6_slips sX7_slips
  rcases way_c (W 0) x with ⟨i, hi, rfl, e1, e2⟩ | ⟨e1, e2⟩
  · rw [e1, e2, if_neg n10, if_neg n10]
    rcases isIn_c y 0 1 with ⟨a, b, e⟩ | ⟨a, e⟩
    · rw [e, if_neg n10, if_neg (fun q => by have := i_lt q; have := i_le a; omega), if_pos b]
      obtain ⟨g1, g2⟩ := gW.2.1.find hi
      have hc := (gW.2.1.Y hi).1
      have hn := gW.2.1.n
      rw [gW.2.1.pieceOfSlip hi]
      by_cases d : PSl (W 0) i n (c i) < c i
      · have hL := sk_yes (fun p => decide (LSl (W 0) i p n < n)) (c i) 0 (by unfold PSl at d; omega)
        have hL : LSl (W 0) i (PSl (W 0) i n (c i)) n < n := by simpa [PSl] using hL
        rw [if_pos d] at g2
        rw [if_pos d, if_pos (ii_0le (by omega)), gW.2.1.layerOfSlip, if_pos hL]
        simp only [bns]
        by_cases f : y = 0
        · rw [if_pos f, if_pos f]; exact OK.mk g2.1.symm (h.sq (SQ.find g1) rfl rfl rfl rfl rfl)
        · rw [if_neg f, if_neg f]; exact OK.mk g2.2.symm (h.sq (SQ.find g1) rfl rfl rfl rfl rfl)
      · rw [if_neg d] at g2
        rw [if_neg d, if_neg (by decide)]
        simp only [bns]
        by_cases f : y = 0
        · rw [if_pos f]; exact OK.mk g2.1.symm (h.sq (SQ.find g1) rfl rfl rfl rfl rfl)
        · rw [if_neg f]; exact OK.mk g2.2.symm (h.sq (SQ.find g1) rfl rfl rfl rfl rfl)
    · rw [e, if_pos z00]
      rcases a with a | a
      · rw [if_pos a]
        exact OK.no (h.refuse m2 (by omega) (by omega))
      · have a' := i_lt a
        rw [q_1] at a'
        rw [if_neg (fun q => by have := i_lt q; rw [q_0] at this; omega), if_neg (fun q => by have := i_le q; rw [q_1] at this; omega)]
        exact OK.no (h.refuse m2 (by omega) (by omega))
  · rw [e1, e2, if_pos z00, if_pos z00]
    exact OK.no (h.refuse m1 (by omega) (by omega))
theorem S_margin {W : Nat → Nat → Nat → Int32} {w : Nat → Nat → Int32} (h : REL W w) (x : Int32) : OK (sX6_margin W x) (sX7_margin w x) := by
  obtain ⟨⟨n, c, gW⟩, gF, gL, gR, gI, gS⟩ := id h
  unfold sX6_margin sX7_margin
  rcases way_c (W 0) x with ⟨i, hi, rfl, e1, e2⟩ | ⟨e1, e2⟩
  · rw [e1, e2, if_neg n10, if_neg n10, gW.2.1.margin hi]
    exact OK.mk rfl h
  · rw [e1, e2, if_pos z00, if_pos z00]
    exact OK.no (h.wide m1 (by omega) (by omega))
theorem WR.ho01 {n : Nat} {c : Nat → Nat} {a w : Nat → Nat → Int32} (h : WR n c a w) {i : Nat} (hi : i < 2) : sX4_holds a (ii i) = 0 ∨ sX4_holds a (ii i) = 1 := by
  rw [h.holds hi]
  split
  · exact Or.inl rfl
  · exact Or.inr rfl
theorem WR.homeBy {n : Nat} {c : Nat → Nat} {a w : Nat → Nat → Int32} (h : WR n c a w) {i : Nat} (hi : i < 2) : (sX7_homeBy w (ii i)).1 = (if sX4_holds a (ii i) = 0 then -9 else sX7_minutesOf w (ii i)) ∧ ∀ q, q ≠ 23 → q ≠ 24 → (sX7_homeBy w (ii i)).2 q = w q := by
  obtain ⟨g1, g2⟩ := h.doesHold hi
  unfold sX7_homeBy
  simp only [bnd]
  rw [g1]
  by_cases d : sX4_holds a (ii i) = 0
  · rw [if_pos d, if_pos d]; exact ⟨rfl, g2⟩
  · rw [if_neg d, if_neg d]
    refine ⟨?_, g2⟩
    have hu := h.keep (u := (sX7_doesHold w (ii i)).2) (fun q a b => g2 q (by omega) (by omega))
    show sX7_minutesOf (sX7_doesHold w (ii i)).2 (ii i) = sX7_minutesOf w (ii i)
    rw [hu.minutes_s hi, h.minutes_s hi, g2 9 (by decide) (by decide)]
theorem WR.minutesHome {n : Nat} {c : Nat → Nat} {W : Nat → Nat → Nat → Int32} {w : Nat → Nat → Int32} (h : WR n c (W 0) w) {i : Nat} (hi : i < 2) : sX6_minutesHome W (ii i) = (sX7_homeBy w (ii i)).1 := by
  unfold sX6_minutesHome
  rw [(h.homeBy hi).1, ii_n (by omega), h.minutes hi]
theorem S_home {W : Nat → Nat → Nat → Int32} {w : Nat → Nat → Int32} (h : REL W w) (x : Int32) : OK (sX6_home W x) (sX7_home w x) := by
  obtain ⟨⟨n, c, gW⟩, gF, gL, gR, gI, gS⟩ := id h
  unfold sX6_home sX7_home
  rcases way_c (W 0) x with ⟨i, hi, rfl, e1, e2⟩ | ⟨e1, e2⟩
  · rw [e1, e2, if_neg n10, if_neg n10, gW.2.1.minutesHome hi]
    exact OK.mk rfl (h.sq (SQ.find (gW.2.1.homeBy hi).2) rfl rfl rfl rfl rfl)
  · rw [e1, e2, if_pos z00, if_pos z00]
    exact OK.no (h.refuse m1 (by omega) (by omega))
theorem S_which {W : Nat → Nat → Nat → Int32} {w : Nat → Nat → Int32} (h : REL W w) : sX6_which W = (sX7_which w).1 ∧ REL W (sX7_which w).2 := by
  obtain ⟨⟨n, c, gW⟩, gF, gL, gR, gI, gS⟩ := id h
  have g0 := gW.2.1.homeBy (i := 0) (by omega)
  have hu := gW.2.1.keep (u := (sX7_homeBy w (ii 0)).2) (fun q a b => g0.2 q (by omega) (by omega))
  have g1 := hu.homeBy (i := 1) (by omega)
  have k0 := gW.2.1.minutesHome (W := W) (i := 0) (by omega)
  have k1 := gW.2.1.minutesHome (W := W) (i := 1) (by omega)
  have b0 := gW.2.1.minutes_b (i := 0) (by omega)
  have b1 := gW.2.1.minutes_b (i := 1) (by omega)
  have e0 : (sX7_homeBy w 0) = sX7_homeBy w (ii 0) := rfl
  have k2 : (sX7_homeBy (sX7_homeBy w (ii 0)).2 (ii 1)).1 = (sX7_homeBy w (ii 1)).1 := by
    rw [g1.1, (gW.2.1.homeBy (i := 1) (by omega)).1, hu.minutes_s (by omega), gW.2.1.minutes_s (by omega), g0.2 9 (by decide) (by decide)]
  have hs : ∀ q, q ≠ 23 → q ≠ 24 → (sX7_homeBy (sX7_homeBy w (ii 0)).2 (ii 1)).2 q = w q := fun q a b => by rw [g1.2 q a b, g0.2 q a b]
  have hR : REL W (sX7_homeBy (sX7_homeBy w (ii 0)).2 (ii 1)).2 := h.sq (SQ.find hs) rfl rfl rfl rfl rfl
  have r0 : (sX7_homeBy w (ii 0)).1 = -9 ∨ 0 ≤ (sX7_homeBy w (ii 0)).1.toInt := by
    rw [g0.1]; split
    · exact Or.inl rfl
    · exact Or.inr b0.1
  have r1 : (sX7_homeBy w (ii 1)).1 = -9 ∨ 0 ≤ (sX7_homeBy w (ii 1)).1.toInt := by
    rw [(gW.2.1.homeBy (i := 1) (by omega)).1]; split
    · exact Or.inl rfl
    · exact Or.inr b1.1
  have k0' : sX6_minutesHome W 0 = (sX7_homeBy w (ii 0)).1 := k0
  have k1' : sX6_minutesHome W 1 = (sX7_homeBy w (ii 1)).1 := k1
  unfold sX6_which sX7_which
  simp only [bnd]
  have k2' : (sX7_homeBy (sX7_homeBy w 0).2 1).1 = (sX7_homeBy w (ii 1)).1 := k2
  have hR' : REL W (sX7_homeBy (sX7_homeBy w 0).2 1).2 := hR
  rw [k2', k0', k1', e0]
  rw [e0] at hR'
  generalize (sX7_homeBy w (ii 0)).1 = A at r0 ⊢
  generalize (sX7_homeBy w (ii 1)).1 = B at r1 ⊢
  generalize (sX7_homeBy (sX7_homeBy w (ii 0)).2 1).2 = u at hR' ⊢
  have n9 : ¬ (0 : Int32) ≤ -9 := by decide
  have l9 : (-9 : Int32) < 0 := by decide
  rcases r0 with r0 | r0
  · rw [r0, if_pos rfl, if_neg n9]
    rcases r1 with r1 | r1
    · rw [r1, if_pos rfl, if_neg n9]; exact ⟨rfl, hR'⟩
    · rw [if_neg (fun q => by rw [q, q_m9] at r1; omega), if_pos (Int32.le_iff_toInt_le.mpr (by rw [q_0]; exact r1)), if_pos l9]; exact ⟨rfl, hR'⟩
  · have a1 : ¬ A = -9 := fun q => by rw [q, q_m9] at r0; omega
    have a2 : (0 : Int32) ≤ A := Int32.le_iff_toInt_le.mpr (by rw [q_0]; exact r0)
    have a3 : ¬ A < 0 := fun q => by have := i_lt q; rw [q_0] at this; omega
    rw [if_neg a1, if_pos a2, if_neg a3]
    rcases r1 with r1 | r1
    · rw [r1, if_pos rfl, if_pos l9]; exact ⟨rfl, hR'⟩
    · have b1 : ¬ B = -9 := fun q => by rw [q, q_m9] at r1; omega
      have b3 : ¬ B < 0 := fun q => by have := i_lt q; rw [q_0] at this; omega
      rw [if_neg b1, if_neg b3]
      by_cases d : A ≤ B
      · rw [if_pos d, if_neg (fun q => by have := i_lt q; have := i_le d; omega)]; exact ⟨rfl, hR'⟩
      · rw [if_neg d, if_pos (Int32.lt_iff_toInt_lt.mpr (i_nle d))]; exact ⟨rfl, hR'⟩
