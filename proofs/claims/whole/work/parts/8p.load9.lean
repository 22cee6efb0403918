theorem L_c0 {W : Nat → Nat → Nat → Int32} {z : Nat} (hz : z ≤ 96) (hf : sX1_firstOutOfForm (W 3) = ii z) : sX6_load W = (-1000 - ii z, sc W 3 (st (W 3) 1 0 0)) := by
  unfold sX6_load sX1_clear
  simp only [bns]
  rw [hf, if_neg (ii_nn (by omega))]
theorem L_c1 {W X : Nat → Nat → Nat → Int32} {r : Int32} (hf : sX1_firstOutOfForm (W 3) = -1) (hX : sX6_readStatements_17 97 (ii 0) (ii 0) (ii 0) (sc W 1 (sX4_become (W 1) (W 0))) = (r, X)) : sX6_load W = (r, sc X 3 (st (X 3) 1 0 0)) := by
  have e0 : (0 : Int32) = ii 0 := rfl
  have hr : sX6_readStatements W = (r, X) := by
    unfold sX6_readStatements
    rw [bns_p, bns_p, e0]
    exact hX
  unfold sX6_load sX1_clear
  rw [hf, if_pos (show (-1 : Int32) < 0 by decide), hr, bnd_p, bns_p, bns_p, bns_p]
theorem L_m {w : Nat → Nat → Int32} : sX7_load w = sX7_load_12 196 1 (st (st w 17 0 0) 18 0 0) := by
  unfold sX7_load
  rw [bns_p, bns_p]
theorem L_f {v : Nat → Nat → Int32} {t : Nat} (ht : t ≤ 96) (h : v 1 0 = ii t) : sX1_firstOutOfForm v = if t = 0 then ii 0 else sX1_firstOutOfForm_16 v 97 2 (ii 0) (ii 0) := by
  have e0 : (0 : Int32) = ii 0 := rfl
  unfold sX1_firstOutOfForm
  rw [h, e0]
  by_cases c : t = 0
  · rw [if_pos c, if_pos (by rw [c])]
  · rw [if_neg c, if_neg (fun q => c ((ii_inj (by omega) (by omega)).mp q))]
