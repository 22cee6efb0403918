/-! a layer more -/
theorem WR.lay {n : Nat} {c : Nat → Nat} {a w u : Nat → Nat → Int32} (h : WR n c a w) (hn : n < 12) {kd s o l : Int32} (hk : rg kd 0 6) (hs : rg s 1 20) (ho : rg o 0 9) (hl : rg l (-5) 5) (u1 : ∀ j, j < 4 → u 1 j = w 1 j) (u2 : ∀ q, 2 ≤ q → q ≤ 6 → ∀ j, j < n → u q j = w q j) (u3 : ∀ q, 7 ≤ q → q ≤ 9 → ∀ j, j < 12 → u q j = w q j) (u4 : ∀ j, j < 2 → u 10 j = w 10 j) (u5 : u 11 0 = ii (n + 1)) (k2 : u 2 n = kd) (k3 : u 3 n = s) (k4 : u 4 n = o) (k5 : u 5 n = l) (k6 : u 6 n = 0) : (sX4_lay a kd s o l).1 = 1 ∧ WR (n + 1) c (sX4_lay a kd s o l).2 u := by
  have e12 : (12 : Int32) = ii 12 := rfl
  obtain ⟨s1, s2⟩ := id hs
  obtain ⟨l1, l2⟩ := id hl
  have habs : (if 0 ≤ l then l else 0 - l) ≤ 5 := by
    split
    · exact Int32.le_iff_toInt_le.mpr (by rw [q_5]; exact l2)
    · have := i_subl (a := 0) (b := l) q_0 (by omega) (by omega)
      exact Int32.le_iff_toInt_le.mpr (by rw [q_5, this]; omega)
  obtain ⟨A, hA⟩ : ∃ A, A = st (st (st (st (st (st a 0 n kd) 1 n s) 2 n o) 3 n l) 4 n (sX0_binding kd s)) 5 n 0 := ⟨_, rfl⟩
  have eA : sX4_lay a kd s o l = (1, sX4_bear (st A 6 0 (ii (n + 1))) (sX4_weightOf (st A 6 0 (ii (n + 1))) (ii n))) := by
    have e1 : ii (n + 1) - 1 = ii n := ii_b (k := n + 1) (j := 1) (by omega)
    unfold sX4_lay
    rw [h.a6, e12, ifle (by omega) (by omega), if_neg (show ¬ 12 ≤ n by omega), if_neg (fun q => by have := i_lt q; rw [q_1] at this; omega), if_neg (fun q => by have := i_lt q; rw [q_20] at this; omega), if_pos habs, ii_n (by omega)]
    simp only [bns]
    have x1 : ∀ v z, st v 0 n z 6 = v 6 := fun v z => st_o (by decide)
    have x2 : ∀ v z, st v 1 n z 6 = v 6 := fun v z => st_o (by decide)
    have x3 : ∀ v z, st v 2 n z 6 = v 6 := fun v z => st_o (by decide)
    have x4 : ∀ v z, st v 3 n z 6 = v 6 := fun v z => st_o (by decide)
    have x5 : ∀ v z, st v 4 n z 6 = v 6 := fun v z => st_o (by decide)
    have x6 : ∀ v z, st v 5 n z 6 = v 6 := fun v z => st_o (by decide)
    have xn : (ii n).toNatClampNeg = n := ii_n (by omega)
    simp only [x1, x2, x3, x4, x5, x6, h.a6, xn, ii_s, st_rd, e1, ← hA]
  have B6 : st A 6 0 (ii (n + 1)) 6 0 = ii (n + 1) := st_rd
  have ew : sX4_weightOf (st A 6 0 (ii (n + 1))) (ii n) = sX0_weight kd s := by
    unfold sX4_weightOf
    rw [ii_n (by omega), st_o (by decide), st_o (by decide), hA, st_o (by decide), st_o (by decide), st_o (by decide), st_o (by decide), st_o (by decide), st_rd, st_o (by decide), st_o (by decide), st_o (by decide), st_o (by decide), st_rd]
  rw [ew] at eA
  obtain ⟨b1, b2⟩ := e_bear (n := n + 1) (by omega) (sX0_weight kd s) 13 0 (st A 6 0 (ii (n + 1))) B6 (by omega) (by omega)
  have rA : ∀ q, q ≤ 3 → ∀ j, A q j = if j = n then (if q = 0 then kd else if q = 1 then s else if q = 2 then o else l) else a q j := fun q hq j => by
    rw [hA]
    rcases (show q = 0 ∨ q = 1 ∨ q = 2 ∨ q = 3 by omega) with rfl | rfl | rfl | rfl <;> simp [st, upd]
  have rA4 : ∀ j, A 4 j = if j = n then sX0_binding kd s else a 4 j := fun j => by rw [hA]; simp [st, upd]
  have rA5 : ∀ j, A 5 j = if j = n then 0 else a 5 j := fun j => by rw [hA]; simp [st, upd]
  have rA7 : ∀ q, 6 ≤ q → A q = a q := fun q hq => by rw [hA, st_o (by omega), st_o (by omega), st_o (by omega), st_o (by omega), st_o (by omega), st_o (by omega)]
  rw [eA]
  refine ⟨rfl, ?_⟩
  show WR (n + 1) c (sX4_bear_2 (sX0_weight kd s) 13 (ii 0) (st A 6 0 (ii (n + 1)))) u
  have ewn : wt u n = sX0_weight kd s := by unfold wt; rw [k2, k3]
  have ewj : ∀ j, j < n → wt u j = wt w j := fun j hj => by unfold wt; rw [u2 2 (by omega) (by omega) j hj, u2 3 (by omega) (by omega) j hj]
  refine ⟨by omega, by rw [b1 6 (by decide)]; exact B6, u5, fun j hj => ?_, fun i hi => ?_, fun j hj => ?_, ?_, ?_, ?_, ?_⟩
  · unfold LR
    have esm : sm (wt u) j (n + 1 - j) = sm (wt w) j (n - j) + sX0_weight kd s := by
      rw [show n + 1 - j = (n - j) + 1 by omega, sm, show j + (n - j) = n by omega, ewn]
      rw [sm_cong (n - j) (fun k a b => ewj k (by omega))]
    rw [esm, b1 0 (by decide), b1 1 (by decide), b1 2 (by decide), b1 3 (by decide), b1 4 (by decide), b2 j, if_pos (by omega), st_o (by decide), st_o (by decide), st_o (by decide), st_o (by decide), st_o (by decide), st_o (by decide)]
    by_cases e : j = n
    · subst e
      have q0 : A 0 j = kd := by rw [rA 0 (by omega)]; simp
      have q1 : A 1 j = s := by rw [rA 1 (by omega)]; simp
      have q2 : A 2 j = o := by rw [rA 2 (by omega)]; simp
      have q3 : A 3 j = l := by rw [rA 3 (by omega)]; simp
      have q4 : A 4 j = sX0_binding kd s := by rw [rA4]; simp
      have q5 : A 5 j = 0 := by rw [rA5]; simp
      rw [q0, q1, q2, q3, q4, q5, k2, k3, k4, k5, k6, show j - j = 0 by omega, bdg_0 hk hs]
      exact ⟨⟨rfl, hk⟩, ⟨rfl, hs⟩, ⟨rfl, ho⟩, ⟨rfl, hl⟩, ⟨rfl, by rw [rg, q_0]; omega⟩, rfl⟩
    · have q0 : A 0 j = a 0 j := by rw [rA 0 (by omega), if_neg e]
      have q1 : A 1 j = a 1 j := by rw [rA 1 (by omega), if_neg e]
      have q2 : A 2 j = a 2 j := by rw [rA 2 (by omega), if_neg e]
      have q3 : A 3 j = a 3 j := by rw [rA 3 (by omega), if_neg e]
      have q4 : A 4 j = a 4 j := by rw [rA4, if_neg e]
      have q5 : A 5 j = a 5 j := by rw [rA5, if_neg e]
      rw [q0, q1, q2, q3, q4, q5]
      obtain ⟨g0, g1, g2, g3, g4, g5⟩ := h.L (j := j) (by omega)
      rw [u2 2 (by omega) (by omega) j (by omega), u2 3 (by omega) (by omega) j (by omega), u2 4 (by omega) (by omega) j (by omega), u2 5 (by omega) (by omega) j (by omega), u2 6 (by omega) (by omega) j (by omega), g5]
      exact ⟨g0, g1, g2, g3, g4, rfl⟩
  · obtain ⟨y1, y2, y3, y4⟩ := h.Y hi
    refine ⟨y1, by rw [b1 _ (by omega), st_o (by omega), rA7 _ (by omega)]; exact y2, by rw [u4 i hi]; exact y3, fun j hj => ?_⟩
    rw [b1 _ (by omega), b1 _ (by omega), b1 _ (by omega), st_o (by omega), st_o (by omega), st_o (by omega), rA7 _ (by omega), rA7 _ (by omega), rA7 _ (by omega), u3 7 (by omega) (by omega) _ (by omega), u3 8 (by omega) (by omega) _ (by omega), u3 9 (by omega) (by omega) _ (by omega)]
    exact y4 j hj
  · rw [b1 7 (by decide), st_o (by decide), rA7 7 (by omega), u1 j hj]; exact h.S hj
  · rw [u1 0 (by omega)]; exact h.s0
  · rw [u1 1 (by omega)]; exact h.s1
  · rw [u1 2 (by omega)]; exact h.s2
  · rw [u1 3 (by omega)]; exact h.s3
theorem S_more {W : Nat → Nat → Nat → Int32} {w : Nat → Nat → Int32} (h : REL W w) (x : Int32) : OK (sX6_more W x) (sX7_more w x) := by
  obtain ⟨⟨n, c, gW⟩, gF, gL, gR, gI, gS⟩ := id h
  have hn := gW.1
  unfold sX6_more sX7_more
  rcases way_c (W 0) x with ⟨i, hi, rfl, e1, e2⟩ | ⟨e1, e2⟩
  · rw [e1, e2, if_neg n10, if_neg n10, gW.2.1.a6, gW.2.1.w11]
    by_cases h0 : n = 0
    · subst h0
      have el : sX4_hasLayer (W 0) (ii 0 - 1) = 0 := by
        unfold sX4_hasLayer
        rw [if_pos (by decide)]
      rw [el, if_pos z00, if_pos (by rfl)]
      exact OK.no (h.refuse m3 (by omega) (by omega))
    · have eb : ii n - 1 = ii (n - 1) := ii_b (j := 1) (by omega)
      have el : sX4_hasLayer (W 0) (ii (n - 1)) = 1 := by
        unfold sX4_hasLayer
        rw [if_neg (ii_nn (by omega)), gW.2.1.a6, ifle (by omega) (by omega), if_neg (show ¬ n ≤ n - 1 by omega)]
      rw [eb, el, if_neg n10, if_neg (fun q => h0 ((ii_0 (by omega)).mp q))]
      obtain ⟨⟨l0, r0⟩, ⟨l1, r1⟩, ⟨l2, r2⟩, ⟨l3, r3⟩, -, -⟩ := gW.2.1.L (j := n - 1) (by omega)
      obtain ⟨U, hU⟩ : ∃ U, U = st (st (st (st (st w 2 n (w 2 (n - 1))) 3 n (w 3 (n - 1))) 4 n (w 4 (n - 1))) 5 n (w 5 (n - 1))) 11 0 (ii (n + 1)) := ⟨_, rfl⟩
      have xn : (ii n).toNatClampNeg = n := ii_n (by omega)
      have xm : (ii (n - 1)).toNatClampNeg = n - 1 := ii_n (by omega)
      have x1 : ∀ v z, st v 2 n z 11 = v 11 := fun v z => st_o (by decide)
      have x2 : ∀ v z, st v 3 n z 11 = v 11 := fun v z => st_o (by decide)
      have x3 : ∀ v z, st v 4 n z 11 = v 11 := fun v z => st_o (by decide)
      have x4 : ∀ v z, st v 5 n z 11 = v 11 := fun v z => st_o (by decide)
      have y1 : ∀ v z, st v 2 n z 3 = v 3 := fun v z => st_o (by decide)
      have y2 : ∀ v z, st v 2 n z 4 = v 4 := fun v z => st_o (by decide)
      have y3 : ∀ v z, st v 3 n z 4 = v 4 := fun v z => st_o (by decide)
      have y4 : ∀ v z, st v 2 n z 5 = v 5 := fun v z => st_o (by decide)
      have y5 : ∀ v z, st v 3 n z 5 = v 5 := fun v z => st_o (by decide)
      have y6 : ∀ v z, st v 4 n z 5 = v 5 := fun v z => st_o (by decide)
      simp only [bns, bnd, x1, x2, x3, x4, y1, y2, y3, y4, y5, y6, gW.2.1.w11, xn, xm, eb, ii_s, ← hU, sc_s, sc_o (show ¬ 0 = 1 by decide), l0, l1, l2, l3]
      have rU : ∀ q, q ≠ 11 → ∀ j, j ≠ n → U q j = w q j := fun q hq j hj => by
        rw [hU, st_o hq]
        unfold st upd
        repeat' split
        all_goals simp_all
      obtain ⟨t1, t2⟩ := (gW.2.1.become (W 1)).lay (u := U) (kd := w 2 (n - 1)) (s := w 3 (n - 1)) (o := w 4 (n - 1)) (l := w 5 (n - 1)) (by omega) r0 r1 r2 r3 (fun j hj => by rw [hU, st_o (by decide), st_o (by decide), st_o (by decide), st_o (by decide), st_o (by decide)]) (fun q a b j hj => rU q (by omega) j (by omega)) (fun q a b j hj => by rw [hU, st_o (by omega), st_o (by omega), st_o (by omega), st_o (by omega), st_o (by omega)]) (fun j hj => by rw [hU, st_o (by decide), st_o (by decide), st_o (by decide), st_o (by decide), st_o (by decide)]) (by rw [hU, st_rd]) (by rw [hU, st_o (by decide), st_o (by decide), st_o (by decide), st_o (by decide), st_rd]) (by rw [hU, st_o (by decide), st_o (by decide), st_o (by decide), st_rd]) (by rw [hU, st_o (by decide), st_o (by decide), st_rd]) (by rw [hU, st_o (by decide), st_rd]) (by rw [hU, st_o (by decide), st_o (by decide), st_o (by decide), st_o (by decide), st_o (by decide)]; exact gW.2.2 n (by omega))
      obtain ⟨g1, g2⟩ := t2.doesHold hi
      have e11 : (sX7_doesHold U (ii i)).2 11 0 - 1 = ii n := by
        rw [g2 11 (by decide) (by decide), hU, st_rd]
        exact ii_b (k := n + 1) (j := 1) (by omega)
      rw [g1, e11]
      have hq : ∀ q, q ≠ 2 → q ≠ 3 → q ≠ 4 → q ≠ 5 → q ≠ 11 → q ≠ 23 → q ≠ 24 → st (sX7_doesHold U (ii i)).2 11 0 (ii n) q = w q := fun q a b d e f g k => by
        rw [st_o f, g2 q g k, hU, st_o f, st_o e, st_o d, st_o b, st_o a]
      have hR : REL (sc (sc W 1 (sX4_become (W 1) (W 0))) 1 (sX4_lay (sX4_become (W 1) (W 0)) (w 2 (n - 1)) (w 3 (n - 1)) (w 4 (n - 1)) (w 5 (n - 1))).2) (st (sX7_doesHold U (ii i)).2 11 0 (ii n)) := by
        have hT := ((T1.rf W).sc (sX4_become (W 1) (W 0))).sc (sX4_lay (sX4_become (W 1) (W 0)) (w 2 (n - 1)) (w 3 (n - 1)) (w 4 (n - 1)) (w 5 (n - 1))).2
        refine ⟨⟨n, c, gW.1, ?_, fun j hj => by rw [hq 6 (by decide) (by decide) (by decide) (by decide) (by decide) (by decide) (by decide)]; exact gW.2.2 j hj⟩, gF.keep (hT 5 (by decide)) (hq 0 (by decide) (by decide) (by decide) (by decide) (by decide) (by decide) (by decide)), gL.keep (hT 3 (by decide)) (hq 16 (by decide) (by decide) (by decide) (by decide) (by decide) (by decide) (by decide)) (hq 12 (by decide) (by decide) (by decide) (by decide) (by decide) (by decide) (by decide)), gR.keep (hT 4 (by decide)) (hq 27 (by decide) (by decide) (by decide) (by decide) (by decide) (by decide) (by decide)) (hq 26 (by decide) (by decide) (by decide) (by decide) (by decide) (by decide) (by decide)), gI.keep (hT 2 (by decide)) (by rw [hT 5 (by decide)]) (fun j _ => by rw [hq 19 (by decide) (by decide) (by decide) (by decide) (by decide) (by decide) (by decide)]) (by rw [hq 20 (by decide) (by decide) (by decide) (by decide) (by decide) (by decide) (by decide)]), gS.keep (hq 17 (by decide) (by decide) (by decide) (by decide) (by decide) (by decide) (by decide)) (hq 18 (by decide) (by decide) (by decide) (by decide) (by decide) (by decide) (by decide))⟩
        rw [hT 0 (by decide)]
        refine gW.2.1.keepA ⟨fun j hj => by rw [hq 1 (by decide) (by decide) (by decide) (by decide) (by decide) (by decide) (by decide)], fun q a b j hj => ?_, fun q a b j hj => by rw [hq q (by omega) (by omega) (by omega) (by omega) (by omega) (by omega) (by omega)], fun j hj => by rw [hq 10 (by decide) (by decide) (by decide) (by decide) (by decide) (by decide) (by decide)], by rw [st_rd, gW.2.1.w11]⟩
        rw [st_o (by omega), g2 q (by omega) (by omega)]
        exact rU q (by omega) j (by omega)
      by_cases f : sX4_holds (sX4_lay (sX4_become (W 1) (W 0)) (w 2 (n - 1)) (w 3 (n - 1)) (w 4 (n - 1)) (w 5 (n - 1))).2 (ii i) = 0
      · rw [if_pos f, if_pos f]; exact OK.mk rfl hR
      · rw [if_neg f, if_neg f]; exact OK.mk rfl hR
  · rw [e1, e2, if_pos z00, if_pos z00]
    exact OK.no (h.refuse m1 (by omega) (by omega))
