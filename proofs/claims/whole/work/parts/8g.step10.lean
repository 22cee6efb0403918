/-! by lot -/
theorem and_b (s : Int32) : 0 ≤ (s &&& 2147483647).toInt := by
  have h1 : (s &&& 2147483647).toInt = (s.toBitVec &&& (2147483647#32)).toInt := rfl
  rw [h1, BitVec.toInt_eq_toNat_of_lt]
  · omega
  · have h2 : (s.toBitVec &&& (2147483647#32)).toNat = s.toBitVec.toNat &&& 2147483647 := rfl
    rw [h2]
    have h3 : s.toBitVec.toNat &&& 2147483647 ≤ 2147483647 := Nat.and_le_right
    omega
theorem mod_b {x c : Int32} {m : Int} (hc : c.toInt = m) (hm : 1 < m) (hm2 : m ≤ 1000) (hx : 0 ≤ x.toInt) : 0 ≤ (x - x / c * c).toInt ∧ (x - x / c * c).toInt < m := by
  have b1 := j_rng x
  have hne : c ≠ -1 := fun e => by rw [e, q_m1] at hc; omega
  have e1 : (x / c).toInt = x.toInt / m := by
    rw [Int32.toInt_div_of_ne_right _ _ hne, hc, Int.tdiv_eq_ediv_of_nonneg hx]
  have h1 : 0 ≤ x.toInt / m := Int.ediv_nonneg hx (by omega)
  have h2 := Int.emod_add_mul_ediv x.toInt m
  have h3 := Int.emod_nonneg x.toInt (show m ≠ 0 by omega)
  have h4 := Int.emod_lt_of_pos x.toInt (show 0 < m by omega)
  have h6 : x.toInt / m * m = m * (x.toInt / m) := Int.mul_comm _ _
  have h7 : 0 ≤ m * (x.toInt / m) := Int.mul_nonneg (by omega) h1
  have e2 : (x / c * c).toInt = m * (x.toInt / m) := by
    rw [i_mul (by rw [e1, hc, h6]; omega) (by rw [e1, hc, h6]; omega), e1, hc, h6]
  have e3 : (x - x / c * c).toInt = x.toInt - m * (x.toInt / m) := by
    rw [i_sub (by omega) (by omega), e2]
  omega
theorem dr_b (s : Int32) : 0 ≤ ((s &&& 2147483647) / 256).toInt := by
  have h := and_b s
  have hne : (256 : Int32) ≠ -1 := by decide
  rw [Int32.toInt_div_of_ne_right _ _ hne, q_256, Int.tdiv_eq_ediv_of_nonneg h]
  omega
theorem e_draw (s : Int32) : sX4_draw s 10 = ((s &&& 2147483647) / 256) - ((s &&& 2147483647) / 256) / 10 * 10 ∧ rg (sX4_draw s 10) 0 9 ∧ sX4_draw s 11 = ((s &&& 2147483647) / 256) - ((s &&& 2147483647) / 256) / 11 * 11 ∧ rg (sX4_draw s 11 - 5) (-5) 5 := by
  have h := dr_b s
  have a := mod_b (x := (s &&& 2147483647) / 256) (c := 10) q_10 (by omega) (by omega) h
  have b := mod_b (x := (s &&& 2147483647) / 256) (c := 11) (m := 11) (by decide) (by omega) (by omega) h
  have e1 : sX4_draw s 10 = ((s &&& 2147483647) / 256) - ((s &&& 2147483647) / 256) / 10 * 10 := by unfold sX4_draw; rw [if_pos (by decide)]
  have e2 : sX4_draw s 11 = ((s &&& 2147483647) / 256) - ((s &&& 2147483647) / 256) / 11 * 11 := by unfold sX4_draw; rw [if_pos (by decide)]
  rw [← e1] at a
  rw [← e2] at b
  have e3 := i_subr (a := sX4_draw s 11) (b := 5) q_5 (by omega) (by omega)
  exact ⟨e1, ⟨a.1, by omega⟩, e2, by omega, by omega⟩
theorem WR.lean1 {n : Nat} {c : Nat → Nat} {a w : Nat → Nat → Int32} (h : WR n c a w) {k : Nat} {v : Int32} (hv : rg v (-5) 5) : WR n c (st a 3 k v) (st w 5 k v) := by
  refine ⟨h.n, by rw [st_o (by decide)]; exact h.a6, by rw [st_o (by decide)]; exact h.w11, fun j hj => ?_, fun i hi => ?_, fun j hj => ?_, ?_, ?_, ?_, ?_⟩
  · obtain ⟨g0, g1, g2, g3, g4, g5⟩ := h.L hj
    unfold LR
    have ewt : wt (st w 5 k v) = wt w := by funext k; unfold wt; rw [st_o (by decide), st_o (by decide)]
    rw [ewt, st_o (show ¬ 0 = 3 by decide), st_o (show ¬ 1 = 3 by decide), st_o (show ¬ 2 = 3 by decide), st_o (show ¬ 4 = 3 by decide), st_o (show ¬ 5 = 3 by decide), st_o (show ¬ 2 = 5 by decide), st_o (show ¬ 3 = 5 by decide), st_o (show ¬ 4 = 5 by decide), st_o (show ¬ 6 = 5 by decide), st_s, st_s]
    refine ⟨g0, g1, g2, ?_, g4, g5⟩
    unfold upd
    by_cases f : j = k
    · rw [if_pos f, if_pos f]; exact ⟨rfl, hv⟩
    · rw [if_neg f, if_neg f]; exact g3
  · have y := h.Y hi
    unfold YR at y ⊢
    rw [st_o (by omega), st_o (by omega), st_o (by omega), st_o (by omega), st_o (by omega), st_o (by omega), st_o (by omega), st_o (by omega)]
    exact y
  · rw [st_o (by decide), st_o (by decide)]; exact h.S hj
  · rw [st_o (by decide)]; exact h.s0
  · rw [st_o (by decide)]; exact h.s1
  · rw [st_o (by decide)]; exact h.s2
  · rw [st_o (by decide)]; exact h.s3
theorem e_lots58 {n : Nat} {c : Nat → Nat} (hn : n ≤ 12) (a1 x5 x6 : Int32) (rc : Int32 → Int32 → (Nat → Nat → Int32) → (Int32 × (Nat → Nat → Int32))) : ∀ (m k : Nat) (s : Int32) (v U : Nat → Nat → Int32), k ≤ n → n - k < m → WR n c v U → U 28 0 = s → ∃ s' v' F, sX4_layByLot_4 m s (ii k) v = (s', v') ∧ sX7_lots_58 a1 x5 x6 rc m (ii k) U = (if (sX7_doesHold F a1).1 = 0 then rc (x5 + 0) (x6 + 1) (sX7_doesHold F a1).2 else rc (x5 + 1) (x6 + 1) (sX7_doesHold F a1).2) ∧ WR n c v' F ∧ F 28 0 = s' ∧ (∀ q, q ≠ 4 → q ≠ 5 → q ≠ 28 → F q = U q) ∧ ∀ j, 12 ≤ j → F 4 j = U 4 j ∧ F 5 j = U 5 j := by
  intro m
  induction m with
  | zero => intro k s v U _ h; omega
  | succ m ih =>
    intro k s v U hk hm hW hs
    rw [sX4_layByLot_4, sX7_lots_58, hW.a6, hW.w11, ifle (by omega) (by omega), ifle (by omega) (by omega)]
    by_cases d : n ≤ k
    · rw [if_pos d, if_pos d]
      simp only [bnd]
      exact ⟨s, v, U, rfl, rfl, hW, hs, fun _ _ _ _ => rfl, fun _ _ => ⟨rfl, rfl⟩⟩
    · rw [if_neg d, if_neg d, ii_n (by omega), ii_s]
      simp only [bns, bnd, sX7_draw]
      have d1 := e_draw (sX4_nextSeed s)
      have d2 := e_draw (sX4_nextSeed (sX4_nextSeed s))
      have n1 : U 28 0 * 1664525 + 1013904223 = sX4_nextSeed s := by rw [hs]; rfl
      have n2 : sX4_nextSeed s * 1664525 + 1013904223 = sX4_nextSeed (sX4_nextSeed s) := rfl
      have x1 : ∀ v k z, st v 4 k z 28 = v 28 := fun v k z => st_o (by decide)
      have x2 : ∀ v z, st v 28 0 z 28 0 = z := fun v z => st_rd
      simp only [x1, x2, n1, n2, ← d1.1, ← d2.2.2.1]
      have W1 : WR n c (st v 2 k (sX4_draw (sX4_nextSeed s) 10)) (st (st U 28 0 (sX4_nextSeed s)) 4 k (sX4_draw (sX4_nextSeed s) 10)) := (hW.keep (fun q a b => st_o (by omega))).out (by omega) d1.2.1
      have W2 : WR n c (st (st v 2 k (sX4_draw (sX4_nextSeed s) 10)) 3 k (sX4_draw (sX4_nextSeed (sX4_nextSeed s)) 11 - 5)) (st (st (st (st U 28 0 (sX4_nextSeed s)) 4 k (sX4_draw (sX4_nextSeed s) 10)) 28 0 (sX4_nextSeed (sX4_nextSeed s))) 5 k (sX4_draw (sX4_nextSeed (sX4_nextSeed s)) 11 - 5)) := (W1.keep (fun q a b => st_o (by omega))).lean1 d2.2.2.2
      obtain ⟨s', v', F, f1, f2, f3, f4, f5, f6⟩ := ih (k + 1) (sX4_nextSeed (sX4_nextSeed s)) _ _ (by omega) (by omega) W2 (by rw [st_o (by decide), st_rd])
      refine ⟨s', v', F, f1, f2, f3, f4, fun q a b e => by rw [f5 q a b e, st_o b, st_o e, st_o a, st_o e], fun j hj => ?_⟩
      obtain ⟨f7, f8⟩ := f6 j hj
      rw [f7, f8, st_o (show ¬ 4 = 5 by decide), st_o (show ¬ 4 = 28 by decide), st_s, st_o (show ¬ 4 = 28 by decide), st_s, st_o (show ¬ 5 = 28 by decide), st_o (show ¬ 5 = 4 by decide), st_o (show ¬ 5 = 28 by decide)]
      unfold upd
      rw [if_neg (by omega), if_neg (by omega)]
      exact ⟨rfl, rfl⟩
theorem e_lots {W : Nat → Nat → Nat → Int32} {w : Nat → Nat → Int32} {n : Nat} {c : Nat → Nat} (hn : n ≤ 12) {i N : Nat} (hi : i < 2) (hN : N ≤ 30) : ∀ (m k : Nat) (s x : Int32) (V : Nat → Nat → Nat → Int32) (U : Nat → Nat → Int32), k ≤ N → N - k < m → T1 V W → WR n c (V 1) U → U 28 0 = s → (∀ q, q ≠ 4 → q ≠ 5 → q ≠ 23 → q ≠ 24 → q ≠ 28 → U q = sX7_passesAll w 1 1 q) → (∀ j, 12 ≤ j → U 4 j = w 4 j ∧ U 5 j = w 5 j) → (sX6_lots_62 (ii i) (ii N) m s x (ii k) V).1 = (sX7_lots_49 (ii i) (ii N) m x (ii k) U).1 ∧ T1 (sX6_lots_62 (ii i) (ii N) m s x (ii k) V).2 W ∧ SQ (sX7_lots_49 (ii i) (ii N) m x (ii k) U).2 w := by
  have hk : ∀ q, q ≠ 19 → q ≠ 21 → q ≠ 22 → sX7_passesAll w 1 1 q = w q := fun q a b d => iX7_save q a b d
  intro m
  induction m with
  | zero => intro k s x V U _ h; omega
  | succ m ih =>
    intro k s x V U hkN hm hT hW hs hU1 hU2
    rw [sX6_lots_62, sX7_lots_49, ifle (by omega) (by omega), ifle (by omega) (by omega)]
    by_cases d : N ≤ k
    · rw [if_pos d, if_pos d]
      simp only [bns]
      refine ⟨trivial, hT, e_back1 (hU1 19 (by decide) (by decide) (by decide) (by decide) (by decide)) (fun q a b j hj => ?_) (fun j hj => by rw [hU1 11 (by decide) (by decide) (by decide) (by decide) (by decide), hk 11 (by decide) (by decide) (by decide)]) (fun q a b e f y z g => by rw [hU1 q (by omega) (by omega) y z g, hk q b e f])⟩
      by_cases f4 : q = 4
      · subst f4
        have : lnr 4 = 12 := rfl
        exact (hU2 j (by omega)).1
      · by_cases f5 : q = 5
        · subst f5
          have : lnr 5 = 12 := rfl
          exact (hU2 j (by omega)).2
        · rw [hU1 q f4 f5 (by omega) (by omega) (by omega), hk q (by omega) (by omega) (by omega)]
    · rw [if_neg d, if_neg d]
      obtain ⟨s', v', F, f1, f2, f3, f4, f5, f6⟩ := e_lots58 hn (ii i) x (ii k) (sX7_lots_49 (ii i) (ii N) m) 13 0 s (V 1) U (by omega) (by omega) hW hs
      have f2' : sX7_lots_58 (ii i) x (ii k) (sX7_lots_49 (ii i) (ii N) m) 13 0 U = _ := f2
      have f1' : sX4_layByLot (V 1) s = (s', v') := by unfold sX4_layByLot; exact f1
      rw [f1', f2']
      simp only [bns, bnd]
      obtain ⟨g1, g2⟩ := f3.doesHold hi
      rw [g1, sc_s, Int32.add_zero, ii_s]
      have hT2 := hT.sc v'
      have hW2 : WR n c (sc V 1 v' 1) (sX7_doesHold F (ii i)).2 := by rw [sc_s]; exact f3.keep (fun q a b => g2 q (by omega) (by omega))
      have r1 : (sX7_doesHold F (ii i)).2 28 0 = s' := by rw [g2 28 (by decide) (by decide)]; exact f4
      have r2 : ∀ q, q ≠ 4 → q ≠ 5 → q ≠ 23 → q ≠ 24 → q ≠ 28 → (sX7_doesHold F (ii i)).2 q = sX7_passesAll w 1 1 q := fun q a b e f g => by rw [g2 q e f, f5 q a b g, hU1 q a b e f g]
      have r3 : ∀ j, 12 ≤ j → (sX7_doesHold F (ii i)).2 4 j = w 4 j ∧ (sX7_doesHold F (ii i)).2 5 j = w 5 j := fun j hj => by
        rw [g2 4 (by decide) (by decide), g2 5 (by decide) (by decide), (f6 j hj).1, (f6 j hj).2]
        exact hU2 j hj
      by_cases g : sX4_holds v' (ii i) = 0
      · rw [if_pos g, if_pos g]
        exact ih (k + 1) s' x _ _ (by omega) (by omega) hT2 hW2 r1 r2 r3
      · rw [if_neg g, if_neg g]
        exact ih (k + 1) s' (x + 1) _ _ (by omega) (by omega) hT2 hW2 r1 r2 r3
theorem S_lots {W : Nat → Nat → Nat → Int32} {w : Nat → Nat → Int32} (h : REL W w) (x y z : Int32) : OK (sX6_lots W x y z) (sX7_lots w x y z) := by
  obtain ⟨⟨n, c, gW⟩, gF, gL, gR, gI, gS⟩ := id h
  unfold sX6_lots sX7_lots
  rcases way_c (W 0) x with ⟨i, hi, rfl, e1, e2⟩ | ⟨e1, e2⟩
  · rw [e1, e2, if_neg n10, if_neg n10]
    rcases bound_c y 1 30 with ⟨a, b, e⟩ | ⟨a, e⟩ | ⟨a, b, e⟩
    · rw [e, if_pos z00, if_pos a, if_pos b]
      simp only [bns]
      have a1 := i_le a
      have b1 := i_le b
      rw [q_1] at a1
      rw [q_30] at b1
      obtain ⟨N, hN, rfl⟩ : ∃ N, N ≤ 30 ∧ y = ii N := ⟨y.toInt.toNat, by omega, ii_of (by omega)⟩
      have hk : ∀ q, q ≠ 19 → q ≠ 21 → q ≠ 22 → sX7_passesAll w 1 1 q = w q := fun q a b d => iX7_save q a b d
      have hb : WR n c (sc W 1 (sX4_become (W 1) (W 0)) 1) (st (sX7_passesAll w 1 1) 28 0 z) := by
        rw [sc_s]
        exact (gW.2.1.become _).keep (fun q a b => by rw [st_o (by omega), hk q (by omega) (by omega) (by omega)])
      obtain ⟨c1, c2, c3⟩ := e_lots (W := W) (w := w) (by have := gW.1; omega) hi hN 31 0 z 0 (sc W 1 (sX4_become (W 1) (W 0))) (st (sX7_passesAll w 1 1) 28 0 z) (by omega) (by omega) ((T1.rf W).sc _) hb st_rd (fun q a b d e f => st_o f) (fun j hj => by rw [st_o (by decide), st_o (by decide), hk 4 (by decide) (by decide) (by decide), hk 5 (by decide) (by decide) (by decide)]; exact ⟨rfl, rfl⟩)
      exact ⟨c1, h.t1 c3 c2⟩
    · rw [e, if_neg n40, if_neg a]
      exact OK.no (h.refuse m4 (by omega) (by omega))
    · rw [e, if_neg n60, if_pos a, if_neg b]
      exact OK.no (h.refuse m6 (by omega) (by omega))
  · rw [e1, e2, if_pos z00, if_pos z00]
    exact OK.no (h.refuse m1 (by omega) (by omega))
