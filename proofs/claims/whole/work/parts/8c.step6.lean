theorem if_same' {α : Type} (P : Prop) [Decidable P] (z : α) : (if P then z else z) = z := by split <;> rfl
theorem row0_back {U w : Nat → Nat → Int32} {r : Nat} (h1 : ∀ q, q ≠ r → q ≠ 23 → q ≠ 24 → U q = w q) (h2 : ∀ j, j ≠ 0 → U r j = w r j) : ∀ q, q ≠ 23 → q ≠ 24 → st U r 0 (w r 0) q = w q := fun q a b => by
  by_cases e : q = r
  · subst e
    funext j
    rw [st_s]
    unfold upd
    split
    · rename_i f; rw [f]
    · rename_i f; exact h2 j f
  · rw [st_o e, h1 q e a b]
theorem e_enough {W : Nat → Nat → Nat → Int32} {w : Nat → Nat → Int32} {n : Nat} {c : Nat → Nat} {i : Nat} (hi : i < 2) : ∀ (m k : Nat) (V : Nat → Nat → Nat → Int32) (U : Nat → Nat → Int32), k ≤ 6 → 7 - k < m + 1 → T1 V W → WR n c (V 1) U → (∀ q, q ≠ 1 → q ≠ 23 → q ≠ 24 → U q = w q) → (∀ j, j ≠ 0 → U 1 j = w 1 j) → (sX6_enough_30 (ii i) m (ii k) V).1 = (sX7_enough_26 w (ii i) m (-9) (ii k) U).1 ∧ T1 (sX6_enough_30 (ii i) m (ii k) V).2 W ∧ SQ (sX7_enough_26 w (ii i) m (-9) (ii k) U).2 w := by
  have e6 : (6 : Int32) = ii 6 := rfl
  have e5 : mostS 0 = ii 5 := rfl
  intro m
  induction m with
  | zero => intro k V U h1 h2; omega
  | succ m ih =>
    intro k V U hk hm hT hWR hU1 hU2
    rw [sX6_enough_30, sX7_enough_26, e5, e6, ifle (by omega) (by omega), if_neg (show ¬ (0 : Int32) ≤ -9 by decide)]
    by_cases d : 6 ≤ k
    · rw [if_pos d, if_pos ((ii_lt (by omega) (by omega)).mpr (by omega))]
      simp only [bns]
      exact ⟨trivial, hT, SQ.find (row0_back hU1 hU2)⟩
    · rw [if_neg d, if_neg (fun q => by have := (ii_lt (by omega) (by omega)).mp q; omega)]
      simp only [bns, bnd]
      have hW2 : WR n c (st (V 1) 7 0 (ii k)) (st U 1 0 (ii k)) := hWR.set (by omega) (fun _ => ⟨by rw [ii_t (by omega)]; omega, by rw [ii_t (by omega)]; omega⟩) (fun q => by omega) (fun q => by omega) (fun q => by omega)
      obtain ⟨g1, g2⟩ := hW2.doesHold hi
      rw [sc_s, g1, ii_s]
      have hU1' : ∀ q, q ≠ 1 → q ≠ 23 → q ≠ 24 → (sX7_doesHold (st U 1 0 (ii k)) (ii i)).2 q = w q := fun q a b e => by rw [g2 q b e, st_o a, hU1 q a b e]
      have hU2' : ∀ j, j ≠ 0 → (sX7_doesHold (st U 1 0 (ii k)) (ii i)).2 1 j = w 1 j := fun j hj => by
        rw [g2 1 (by decide) (by decide), st_s]
        unfold upd
        rw [if_neg hj]
        exact hU2 j hj
      by_cases f : sX4_holds (st (V 1) 7 0 (ii k)) (ii i) = 0
      · rw [if_pos f, if_pos f]
        exact ih (k + 1) (sc V 1 (st (V 1) 7 0 (ii k))) _ (by omega) (by omega) (hT.sc _) (by rw [sc_s]; exact hW2.keep (fun q a b => g2 q (by omega) (by omega))) hU1' hU2'
      · rw [if_neg f, if_neg f]
        cases m with
        | zero => omega
        | succ m =>
          rw [sX7_enough_26, if_pos (ii_0le (k := k) (by omega))]
          simp only [bns]
          rw [if_same']
          exact ⟨rfl, hT.sc _, SQ.find (row0_back hU1' hU2')⟩
theorem S_enough {W : Nat → Nat → Nat → Int32} {w : Nat → Nat → Int32} (h : REL W w) (x : Int32) : OK (sX6_enough W x) (sX7_enough w x) := by
  obtain ⟨⟨n, c, gW⟩, gF, gL, gR, gI, gS⟩ := id h
  unfold sX6_enough sX7_enough
  rcases way_c (W 0) x with ⟨i, hi, rfl, e1, e2⟩ | ⟨e1, e2⟩
  · rw [e1, e2, if_neg n10, if_neg n10]
    simp only [bns]
    obtain ⟨a1, a2, a3⟩ := e_enough (W := W) (w := w) (n := n) (c := c) hi 7 0 (sc W 1 (sX4_become (W 1) (W 0))) w (by omega) (by omega) ((T1.rf W).sc _) (by rw [sc_s]; exact gW.2.1.become _) (fun _ _ _ _ => rfl) (fun _ _ => rfl)
    exact ⟨a1, h.t1 a3 a2⟩
  · rw [e1, e2, if_pos z00, if_pos z00]
    exact OK.no (h.refuse m1 (by omega) (by omega))
/-! judged -/
theorem WR.slipAsTold {n : Nat} {c : Nat → Nat} {V : Nat → Nat → Nat → Int32} {u : Nat → Nat → Int32} (h : WR n c (V 1) u) {i : Nat} (hi : i < 2) : (if (0 : Int32) ≤ sX7_findSlip u (ii i) 24 0 then sX7_findSlip u (ii i) 24 0 else 99) = sX6_slipAsTold V (ii i) := by
  have hn := h.n
  have hc := (h.Y hi).1
  obtain ⟨g1, g2⟩ := h.find hi
  unfold sX6_slipAsTold
  rw [h.pieceOfSlip hi]
  by_cases d : PSl (V 1) i n (c i) < c i
  · have hL := sk_yes (fun p => decide (LSl (V 1) i p n < n)) (c i) 0 (by unfold PSl at d; omega)
    have hL : LSl (V 1) i (PSl (V 1) i n (c i)) n < n := by simpa [PSl] using hL
    rw [if_pos d] at g2
    rw [if_pos d, if_pos (show (0 : Int32) ≤ ii (PSl (V 1) i n (c i)) from ii_0le (by omega)), h.layerOfSlip, if_pos hL, g2.2, if_pos (ii_0le (by omega))]
  · rw [if_neg d] at g2
    rw [if_neg d, g2.2]
    rfl
theorem e_judge {W : Nat → Nat → Nat → Int32} {w w4 : Nat → Nat → Int32} {n : Nat} {c : Nat → Nat} {i r : Nat} (hi : i < 2) (hr : r ≤ 12) (hw : w 27 0 = ii r) (hv : W 4 1 0 = ii r) (he : ∀ j, j < r → W 4 0 j = w4 26 j) : ∀ (m k : Nat) (V : Nat → Nat → Nat → Int32) (U : Nat → Nat → Int32), k ≤ r → r - k < m → T1 V W → WR n c (V 1) U → (∀ q, q ≠ 1 → q ≠ 23 → q ≠ 24 → U q = w4 q) → (∀ j, j ≠ 0 → U 1 j = w4 1 j) → (sX6_judge_33 (ii i) m (-9) (ii k) V).1 = (sX7_judge_37 w (ii i) w4 m (-9) (ii k) U).1 ∧ (∃ V', T1 V' W ∧ (sX6_judge_33 (ii i) m (-9) (ii k) V).2 = sc V' 4 (st (W 4) 1 0 0)) ∧ (∀ q, q ≠ 23 → q ≠ 24 → (sX7_judge_37 w (ii i) w4 m (-9) (ii k) U).2 q = w4 q) := by
  intro m
  induction m with
  | zero => intro k V U h1 h2; omega
  | succ m ih =>
    intro k V U hk hm hT hWR hU1 hU2
    rw [sX6_judge_33, sX7_judge_37, hT 4 (by decide), hv, hw, ifle (by omega) (by omega), ifle (by omega) (by omega), if_neg (show ¬ (0 : Int32) ≤ -9 by decide)]
    by_cases d : r ≤ k
    · rw [if_pos d, if_pos d]
      simp only [bns, sX3_clear]
      exact ⟨trivial, ⟨V, hT, rfl⟩, row0_back hU1 hU2⟩
    · rw [if_neg d, if_neg d, if_pos rfl]
      simp only [bns]
      have hW2 : WR n c (st (V 1) 7 0 (ii k)) (st U 1 0 (ii k)) := hWR.set (by omega) (fun _ => ⟨by rw [ii_t (by omega)]; omega, by rw [ii_t (by omega)]; omega⟩) (fun q => by omega) (fun q => by omega) (fun q => by omega)
      have hW3 : WR n c ((sc V 1 (st (V 1) 7 0 (ii k))) 1) (st U 1 0 (ii k)) := by rw [sc_s]; exact hW2
      have hT2 : T1 (sc V 1 (st (V 1) 7 0 (ii k))) W := hT.sc _
      obtain ⟨g1, g2⟩ := hW2.find hi
      have hs := hW3.slipAsTold hi
      have hU1' : ∀ q, q ≠ 1 → q ≠ 23 → q ≠ 24 → sX7_findSlip (st U 1 0 (ii k)) (ii i) q = w4 q := fun q a b e => by rw [g1 q b e, st_o a, hU1 q a b e]
      have hU2' : ∀ j, j ≠ 0 → sX7_findSlip (st U 1 0 (ii k)) (ii i) 1 j = w4 1 j := fun j hj => by
        rw [g1 1 (by decide) (by decide), st_s]
        unfold upd
        rw [if_neg hj]
        exact hU2 j hj
      have hWn : WR n c ((sc V 1 (st (V 1) 7 0 (ii k))) 1) (sX7_findSlip (st U 1 0 (ii k)) (ii i)) := hW3.keep (fun q a b => g1 q (by omega) (by omega))
      rw [hT2 4 (by decide), ii_n (by omega), he k (by omega), ← hs, hU1' 26 (by decide) (by decide) (by decide), ii_s]
      have stop : (sX6_judge_33 (ii i) m (ii k) (ii (k + 1)) (sc V 1 (st (V 1) 7 0 (ii k)))).1 = (sX7_judge_37 w (ii i) w4 m (ii k) (ii (k + 1)) (sX7_findSlip (st U 1 0 (ii k)) (ii i))).1 ∧ (∃ V', T1 V' W ∧ (sX6_judge_33 (ii i) m (ii k) (ii (k + 1)) (sc V 1 (st (V 1) 7 0 (ii k)))).2 = sc V' 4 (st (W 4) 1 0 0)) ∧ (∀ q, q ≠ 23 → q ≠ 24 → (sX7_judge_37 w (ii i) w4 m (ii k) (ii (k + 1)) (sX7_findSlip (st U 1 0 (ii k)) (ii i))).2 q = w4 q) := by
        cases m with
        | zero => omega
        | succ m =>
          have hne : ¬ ii k = -9 := fun q => by have := congrArg Int32.toInt q; rw [ii_t (by omega), q_m9] at this; omega
          rw [sX6_judge_33, sX7_judge_37, if_neg hne, if_pos (ii_0le (k := k) (by omega)), hT2 4 (by decide)]
          simp only [bns, sX3_clear]
          rw [if_same', if_same']
          exact ⟨rfl, ⟨_, hT2, rfl⟩, row0_back hU1' hU2'⟩
      by_cases f : (0 : Int32) ≤ sX7_findSlip (st U 1 0 (ii k)) (ii i) 24 0
      · rw [if_pos f, if_pos f]
        by_cases g : sX7_findSlip (st U 1 0 (ii k)) (ii i) 24 0 = w4 26 k
        · rw [if_pos g, if_pos g.symm]
          exact ih (k + 1) _ _ (by omega) (by omega) hT2 hWn hU1' hU2'
        · rw [if_neg g, if_neg (fun q => g q.symm)]
          exact stop
      · rw [if_neg f, if_neg f]
        by_cases g : 99 = w4 26 k
        · rw [if_pos g, if_pos g.symm]
          exact ih (k + 1) _ _ (by omega) (by omega) hT2 hWn hU1' hU2'
        · rw [if_neg g, if_neg (fun q => g q.symm)]
          exact stop
theorem S_judge {W : Nat → Nat → Nat → Int32} {w : Nat → Nat → Int32} (h : REL W w) (x : Int32) : OK (sX6_judge W x) (sX7_judge w x) := by
  obtain ⟨⟨n, c, gW⟩, gF, gL, ⟨r, r1, r2, r3, r4⟩, gI, gS⟩ := id h
  unfold sX6_judge sX7_judge
  rcases way_c (W 0) x with ⟨i, hi, rfl, e1, e2⟩ | ⟨e1, e2⟩
  · rw [e1, e2, if_neg n10, if_neg n10]
    simp only [bns]
    have hWR : WR n c ((sc W 1 (sX4_become (W 1) (W 0))) 1) (st w 27 0 0) := by
      rw [sc_s]
      exact (gW.2.1.become _).keep (fun q a b => st_o (by omega))
    obtain ⟨a1, ⟨V', a2, a3⟩, a4⟩ := e_judge (W := W) (w := w) (w4 := st w 27 0 0) hi r1 r3 r2 (fun j hj => by rw [st_o (by decide)]; exact (r4 j hj).1) 13 0 (sc W 1 (sX4_become (W 1) (W 0))) (st w 27 0 0) (by omega) (by omega) ((T1.rf W).sc _) hWR (fun _ _ _ _ => rfl) (fun _ _ => rfl)
    have a0 : ∀ q, q ≠ 23 → q ≠ 24 → q ≠ 27 → (sX7_judge_37 w (ii i) (st w 27 0 0) 13 (-9) 0 (st w 27 0 0)).2 q = w q := fun q a b e => (a4 q a b).trans (st_o e)
    refine ⟨a1, ?_⟩
    have e3 : (sX6_judge_33 (ii i) 13 (-9) 0 (sc W 1 (sX4_become (W 1) (W 0)))).2 = sc V' 4 (st (W 4) 1 0 0) := a3
    rw [e3]
    refine ⟨⟨n, c, gW.keep (by rw [sc_o (by decide)]; exact a2 0 (by decide)) (fun q a b => a0 q (by omega) (by omega) (by omega))⟩, gF.keep (by rw [sc_o (by decide)]; exact a2 5 (by decide)) (a0 0 (by decide) (by decide) (by decide)), gL.keep (by rw [sc_o (by decide)]; exact a2 3 (by decide)) (a0 16 (by decide) (by decide) (by decide)) (a0 12 (by decide) (by decide) (by decide)), ⟨0, by omega, by rw [sc_s, st_rd]; rfl, ?_, fun j hj => by omega⟩, gI.keep (by rw [sc_o (by decide)]; exact a2 2 (by decide)) (by rw [sc_o (by decide), a2 5 (by decide)]) (fun j _ => by rw [a0 19 (by decide) (by decide) (by decide)]) (by rw [a0 20 (by decide) (by decide) (by decide)]), gS.keep (a0 17 (by decide) (by decide) (by decide)) (a0 18 (by decide) (by decide) (by decide))⟩
    exact (congrFun (a4 27 (by decide) (by decide)) 0).trans st_rd
  · rw [e1, e2, if_pos z00, if_pos z00]
    exact OK.no (h.refuse m1 (by omega) (by omega))
