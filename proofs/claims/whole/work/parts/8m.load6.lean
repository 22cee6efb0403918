theorem pc_b (a : Int32) : (sX7_pieceOf a).toInt ≤ 5 := by
  unfold sX7_pieceOf
  repeat' split
  all_goals decide
theorem lc_b (a : Int32) : (sX7_layerOf a).toInt ≤ 6 := by
  unfold sX7_layerOf
  repeat' split
  all_goals decide
theorem swy_o {a : Nat → Nat → Int32} {i q : Nat} {y : Nat → Nat → Int32} (h : ¬ (10 + 4 * i ≤ q ∧ q < 14 + 4 * i)) : swy a i y q = a q := if_neg h
theorem swy_i {a : Nat → Nat → Int32} {i j : Nat} {y : Nat → Nat → Int32} (h : j < 4) : swy a i y (10 + 4 * i + j) = y j := by
  unfold swy
  rw [if_pos ⟨by omega, by omega⟩, show 10 + 4 * i + j - (10 + 4 * i) = j by omega]
theorem WR.addPiece {n : Nat} {c : Nat → Nat} {a w : Nat → Nat → Int32} (h : WR n c a w) {i : Nat} (hi : i < 2) (hc6 : c i < 6) {kd fg mi : Int32} (hk : rg kd 0 5) (hf : rg fg 0 20) (hm : rg mi 1 9) : WR n (fun x => if x = i then c i + 1 else c x) (swy a i (st (st (st (st (wy a i) 0 (c i) kd) 1 (c i) fg) 2 (c i) mi) 3 0 (ii (c i + 1)))) (st (st (st (st w 7 (6 * i + c i) kd) 8 (6 * i + c i) fg) 9 (6 * i + c i) mi) 10 i (ii (c i + 1))) := by
  have x1 : ∀ q, q < 7 → st (st (st (st w 7 (6 * i + c i) kd) 8 (6 * i + c i) fg) 9 (6 * i + c i) mi) 10 i (ii (c i + 1)) q = w q := fun q hq => by rw [st_o (by omega), st_o (by omega), st_o (by omega), st_o (by omega)]
  have x11 : st (st (st (st w 7 (6 * i + c i) kd) 8 (6 * i + c i) fg) 9 (6 * i + c i) mi) 10 i (ii (c i + 1)) 11 = w 11 := by rw [st_o (by decide), st_o (by decide), st_o (by decide), st_o (by decide)]
  have ewt : wt (st (st (st (st w 7 (6 * i + c i) kd) 8 (6 * i + c i) fg) 9 (6 * i + c i) mi) 10 i (ii (c i + 1))) = wt w := by funext k; unfold wt; rw [x1 2 (by omega), x1 3 (by omega)]
  have r7 : ∀ j, st (st (st (st w 7 (6 * i + c i) kd) 8 (6 * i + c i) fg) 9 (6 * i + c i) mi) 10 i (ii (c i + 1)) 7 j = if j = 6 * i + c i then kd else w 7 j := fun j => by rw [st_o (by decide), st_o (by decide), st_o (by decide), st_s]; rfl
  have r8 : ∀ j, st (st (st (st w 7 (6 * i + c i) kd) 8 (6 * i + c i) fg) 9 (6 * i + c i) mi) 10 i (ii (c i + 1)) 8 j = if j = 6 * i + c i then fg else w 8 j := fun j => by rw [st_o (by decide), st_o (by decide), st_s, st_o (by decide)]; rfl
  have r9 : ∀ j, st (st (st (st w 7 (6 * i + c i) kd) 8 (6 * i + c i) fg) 9 (6 * i + c i) mi) 10 i (ii (c i + 1)) 9 j = if j = 6 * i + c i then mi else w 9 j := fun j => by rw [st_o (by decide), st_s, st_o (by decide), st_o (by decide)]; rfl
  have r10 : ∀ j, st (st (st (st w 7 (6 * i + c i) kd) 8 (6 * i + c i) fg) 9 (6 * i + c i) mi) 10 i (ii (c i + 1)) 10 j = if j = i then ii (c i + 1) else w 10 j := fun j => by rw [st_s, st_o (by decide), st_o (by decide), st_o (by decide)]; rfl
  have y0 : ∀ j, st (st (st (st (wy a i) 0 (c i) kd) 1 (c i) fg) 2 (c i) mi) 3 0 (ii (c i + 1)) 0 j = if j = c i then kd else a (10 + 4 * i) j := fun j => by rw [st_o (by decide), st_o (by decide), st_o (by decide), st_s]; rfl
  have y1 : ∀ j, st (st (st (st (wy a i) 0 (c i) kd) 1 (c i) fg) 2 (c i) mi) 3 0 (ii (c i + 1)) 1 j = if j = c i then fg else a (11 + 4 * i) j := fun j => by
    rw [st_o (by decide), st_o (by decide), st_s, st_o (by decide), show 11 + 4 * i = 10 + 4 * i + 1 by omega]; rfl
  have y2 : ∀ j, st (st (st (st (wy a i) 0 (c i) kd) 1 (c i) fg) 2 (c i) mi) 3 0 (ii (c i + 1)) 2 j = if j = c i then mi else a (12 + 4 * i) j := fun j => by
    rw [st_o (by decide), st_s, st_o (by decide), st_o (by decide), show 12 + 4 * i = 10 + 4 * i + 2 by omega]; rfl
  have y3 : st (st (st (st (wy a i) 0 (c i) kd) 1 (c i) fg) 2 (c i) mi) 3 0 (ii (c i + 1)) 3 0 = ii (c i + 1) := st_rd
  generalize st (st (st (st w 7 (6 * i + c i) kd) 8 (6 * i + c i) fg) 9 (6 * i + c i) mi) 10 i (ii (c i + 1)) = u at x1 x11 ewt r7 r8 r9 r10 ⊢
  generalize st (st (st (st (wy a i) 0 (c i) kd) 1 (c i) fg) 2 (c i) mi) 3 0 (ii (c i + 1)) = y at y0 y1 y2 y3 ⊢
  have so : ∀ q, q < 10 → swy a i y q = a q := fun q hq => swy_o (by omega)
  refine ⟨h.n, by rw [so 6 (by omega)]; exact h.a6, by rw [x11]; exact h.w11, fun j hj => ?_, fun x hx => ?_, fun j hj => by rw [so 7 (by omega), x1 1 (by omega)]; exact h.S hj, by rw [x1 1 (by omega)]; exact h.s0, by rw [x1 1 (by omega)]; exact h.s1, by rw [x1 1 (by omega)]; exact h.s2, by rw [x1 1 (by omega)]; exact h.s3⟩
  · have e := h.L hj
    unfold LR at e ⊢
    rw [ewt, so 0 (by omega), so 1 (by omega), so 2 (by omega), so 3 (by omega), so 4 (by omega), so 5 (by omega), x1 2 (by omega), x1 3 (by omega), x1 4 (by omega), x1 5 (by omega), x1 6 (by omega)]
    exact e
  · obtain ⟨p1, p2, p3, p4⟩ := h.Y hx
    unfold YR
    dsimp only
    by_cases e : x = i
    · subst e
      have i0 : swy a x y (10 + 4 * x) = y 0 := swy_i (j := 0) (by omega)
      have i1 : swy a x y (11 + 4 * x) = y 1 := by rw [show 11 + 4 * x = 10 + 4 * x + 1 by omega]; exact swy_i (by omega)
      have i2 : swy a x y (12 + 4 * x) = y 2 := by rw [show 12 + 4 * x = 10 + 4 * x + 2 by omega]; exact swy_i (by omega)
      have i3 : swy a x y (13 + 4 * x) = y 3 := by rw [show 13 + 4 * x = 10 + 4 * x + 3 by omega]; exact swy_i (by omega)
      rw [i0, i1, i2, i3, y3, r10, if_pos (show x = x from rfl), if_pos (show x = x from rfl)]
      refine ⟨by omega, rfl, rfl, fun j hj => ?_⟩
      rw [y0, y1, y2, r7, r8, r9]
      by_cases f : j = c x
      · have f2 : 6 * x + j = 6 * x + c x := by omega
        rw [if_pos f, if_pos f, if_pos f, if_pos f2, if_pos f2, if_pos f2]
        exact ⟨⟨rfl, hk⟩, ⟨rfl, hf⟩, rfl, hm⟩
      · have f2 : ¬ 6 * x + j = 6 * x + c x := by omega
        rw [if_neg f, if_neg f, if_neg f, if_neg f2, if_neg f2, if_neg f2]
        exact p4 j (by omega)
    · rw [if_neg e, swy_o (by omega), r10, if_neg e]
      refine ⟨p1, p2, p3, fun j hj => ?_⟩
      rw [swy_o (by omega), swy_o (by omega), swy_o (by omega), r7, r8, r9, if_neg (by omega), if_neg (by omega), if_neg (by omega)]
      exact p4 j hj
theorem C_w {L : Nat → Int32} {t : Nat} {v U : Nat → Nat → Int32} {V : Nat → Nat → Nat → Int32} (hV : V 3 = v) (h : LV L t v) (ht : t ≤ 96) (hL : ∀ j, j < t → rg (L j) 0 255) {p k n : Nat} {c : Nat → Nat} (hk : k < 48) (hp : p + 7 ≤ t) (hW : WR n c (V 1) U) (hn : n ≤ 11) (h13 : U 13 k = L p) (hc : L p = 119) (d0 : U 15 (4 * k) = nv L t 1 (p + 1) 0) (d1 : U 15 (4 * k + 1) = sX7_pieceOf (L (p + 2))) (d1' : 0 ≤ (sX7_pieceOf (L (p + 2))).toInt) (d2 : U 15 (4 * k + 2) = nv L t 2 (p + 3) 0) (d3 : U 15 (4 * k + 3) = nv L t 1 (p + 5) 0) : CRES t v U V p k := by
  have hb0 := nv1_b L t (p + 1) rg00 (by omega) (by omega)
  have hb2 := nv2_b L t (p + 3) rg00 (by omega) (by omega)
  have hb3 := nv1_b L t (p + 5) rg00 (by omega) (by omega)
  have e4 : (4 : Int32) * ii k = ii (4 * k) := ii_m 4 k
  have eD0 : sX1_digit v (ii p + 1) = nv L t 1 (p + 1) 0 := by rw [ii_s, e_digit h ht (by omega)]
  have eA : sX1_at v (ii p + 2) = L (p + 2) := by rw [ii_s2, e_at h ht (by omega), if_pos (by omega)]
  have eN : sX1_number v (ii p + 3) 2 = nv L t 2 (p + 3) 0 := by
    rw [show ii p + 3 = ii (p + 3) from ii_a p 3]
    exact e_number h ht (q := p + 3) (most := 2) (by omega) (by omega)
  have eD5 : sX1_digit v (ii p + 5) = nv L t 1 (p + 5) 0 := by
    rw [show ii p + 5 = ii (p + 5) from ii_a p 5]
    exact e_digit h ht (by omega)
  obtain ⟨w, hw⟩ : ∃ w, w = nv L t 1 (p + 1) 0 := ⟨_, rfl⟩
  obtain ⟨fg, hfg⟩ : ∃ fg, fg = nv L t 2 (p + 3) 0 := ⟨_, rfl⟩
  obtain ⟨mi, hmi⟩ : ∃ mi, mi = nv L t 1 (p + 5) 0 := ⟨_, rfl⟩
  obtain ⟨kd, hkd⟩ : ∃ kd, kd = sX7_pieceOf (L (p + 2)) := ⟨_, rfl⟩
  have hof := (of_eq (hL (p + 2) (by omega))).2
  have hkb : rg kd 0 5 := ⟨by rw [hkd]; exact d1', by rw [hkd]; exact pc_b _⟩
  rw [← hw] at d0 hb0 eD0
  rw [← hfg] at d2 hb2 eN
  rw [← hmi] at d3 hb3 eD5
  rw [← hkd] at d1 hof
  obtain ⟨f1, f2⟩ := hb2
  obtain ⟨g1, g2⟩ := hb3
  have eC : sX6_readStatement V (ii p) = (if (sX4_hasWay (V 1) w) = 0 then (0, V) else bnd (sX5_add (wy (V 1) (w.toNatClampNeg)) kd fg mi) (fun rn_9 un_9 => bns (sc V 1 (swy (V 1) (w.toNatClampNeg) un_9)) (fun wn_9 => (if rn_9 = 0 then (0, wn_9) else (1, wn_9))))) := by
    unfold sX6_readStatement sX6_readPiece
    rw [hV, e_at h ht (by omega), if_pos (show p < t by omega), hc, if_neg (by decide), if_neg (by decide), if_neg (by decide), if_neg (by decide), if_pos rfl, eD0, eA, eN, eD5, hof]
    rfl
  have eM : sX7_comes U (ii k) = (if (sX7_isWay w) = 0 then (0, U) else (if 20 < fg then (0, U) else (if mi = 0 then (0, U) else (if (U 10 (w.toNatClampNeg)) = 6 then (0, U) else (1, st (st (st (st U 7 (((6 * w) + (U 10 (w.toNatClampNeg))).toNatClampNeg) kd) 8 (((6 * w) + (U 10 (w.toNatClampNeg))).toNatClampNeg) fg) 9 (((6 * w) + (U 10 (w.toNatClampNeg))).toNatClampNeg) mi) 10 (w.toNatClampNeg) (U 10 (w.toNatClampNeg) + 1)))))) := by
    have x2 : ii (4 * k) + 2 = ii (4 * k + 2) := ii_a _ 2
    have x3 : ii (4 * k) + 3 = ii (4 * k + 3) := ii_a _ 3
    have z0 : (ii (4 * k)).toNatClampNeg = 4 * k := ii_n (by omega)
    have z1 : (ii (4 * k + 1)).toNatClampNeg = 4 * k + 1 := ii_n (by omega)
    have z2 : (ii (4 * k + 2)).toNatClampNeg = 4 * k + 2 := ii_n (by omega)
    have z3 : (ii (4 * k + 3)).toNatClampNeg = 4 * k + 3 := ii_n (by omega)
    have o1 : ∀ j x, st U 7 j x 15 = U 15 := fun j x => st_o (by decide)
    have o2 : ∀ u j x, st u 8 j x 15 = u 15 := fun u j x => st_o (by decide)
    have o3 : ∀ u j x, st u 9 j x 10 = u 10 := fun u j x => st_o (by decide)
    have o4 : ∀ u j x, st u 8 j x 10 = u 10 := fun u j x => st_o (by decide)
    have o5 : ∀ u j x, st u 7 j x 10 = u 10 := fun u j x => st_o (by decide)
    unfold sX7_comes sX7_comesPiece
    rw [ii_n (by omega), h13, hc, if_neg (by decide), if_neg (by decide), if_neg (by decide), if_pos rfl, e4]
    simp only [bns, x2, x3, ii_s, z0, z1, z2, z3, d0, d1, d2, d3, o1, o2, o3, o4, o5]
    rfl
  rcases way_c (V 1) w with ⟨i, hi, rfl, e1, e2⟩ | ⟨e1, e2⟩
  · obtain ⟨y1, y2, y3, y4⟩ := hW.Y hi
    have zi : (ii i).toNatClampNeg = i := ii_n (by omega)
    have e3 : wy (V 1) i 3 0 = ii (c i) := by
      show V 1 (10 + 4 * i + 3) 0 = ii (c i)
      rw [show 10 + 4 * i + 3 = 13 + 4 * i by omega]; exact y2
    rw [e2, if_neg n10, zi, y3] at eM
    rw [e1, if_neg n10, zi] at eC
    have eAdd : sX5_add (wy (V 1) i) kd fg mi = (if 6 ≤ c i then (0, wy (V 1) i) else if 20 < fg then (0, wy (V 1) i) else if 1 ≤ mi then (1, st (st (st (st (wy (V 1) i) 0 (c i) kd) 1 (c i) fg) 2 (c i) mi) 3 0 (ii (c i + 1))) else (0, wy (V 1) i)) := by
      have e6 : (6 : Int32) = ii 6 := rfl
      have q1 : ∀ u j x, st u 0 j x 3 = u 3 := fun u j x => st_o (by decide)
      have q2 : ∀ u j x, st u 1 j x 3 = u 3 := fun u j x => st_o (by decide)
      have q3 : ∀ u j x, st u 2 j x 3 = u 3 := fun u j x => st_o (by decide)
      have zc : (ii (c i)).toNatClampNeg = c i := ii_n (by omega)
      unfold sX5_add
      rw [e3, e6, ifle (by omega) (by omega)]
      simp only [bns, q1, q2, q3, e3, zc, ii_s]
    have fail : ∀ y, sX5_add (wy (V 1) i) kd fg mi = (0, y) → (sX7_comes U (ii k) = (0, U)) → CRES t v U V p k := fun y hy hm => by
      refine ⟨0, U, sc V 1 (swy (V 1) i y), hm, ?_, (T1.rf V).sc _, FM.rf U, Or.inl rfl⟩
      rw [eC, hy, bnd_p, bns_p]
      exact if_pos rfl
    by_cases a1 : 20 < fg
    · rw [if_pos a1] at eM
      refine fail (wy (V 1) i) ?_ eM
      rw [eAdd]
      by_cases z : 6 ≤ c i
      · rw [if_pos z]
      · rw [if_neg z, if_pos a1]
    · have a1' := i_nlt a1
      rw [q_20] at a1'
      rw [if_neg a1] at eM
      by_cases a2 : mi = 0
      · rw [if_pos a2] at eM
        refine fail (wy (V 1) i) ?_ eM
        rw [eAdd, if_neg a1, a2, if_neg (show ¬ (1 : Int32) ≤ 0 by decide)]
        exact if_same' _ _
      · rw [if_neg a2] at eM
        have a3 := i_ne a2
        rw [q_0] at a3
        by_cases a4 : 6 ≤ c i
        · rw [if_pos (show ii (c i) = 6 by rw [show c i = 6 by omega]; rfl)] at eM
          refine fail (wy (V 1) i) ?_ eM
          rw [eAdd, if_pos a4]
        · have zq : (ii (6 * i + c i)).toNatClampNeg = 6 * i + c i := ii_n (by omega)
          rw [if_neg (fun z => by have := (ii_inj (k := c i) (j := 6) (by omega) (by omega)).mp z; omega), q6p, zq, ii_s] at eM
          rw [if_neg a4, if_neg a1, if_pos (Int32.le_iff_toInt_le.mpr (by rw [q_1]; omega))] at eAdd
          refine ⟨1, _, sc V 1 (swy (V 1) i (st (st (st (st (wy (V 1) i) 0 (c i) kd) 1 (c i) fg) 2 (c i) mi) 3 0 (ii (c i + 1)))), eM, ?_, (T1.rf V).sc _, ?_, Or.inr ⟨rfl, n, (fun x => if x = i then c i + 1 else c x), hn, ?_⟩⟩
          · rw [eC, eAdd, bnd_p, bns_p]
            exact if_neg n10
          · have l7 : lnr 7 = 12 := rfl
            have l8 : lnr 8 = 12 := rfl
            have l9 : lnr 9 = 12 := rfl
            have l10 : lnr 10 = 2 := rfl
            exact (FM.put (by omega) (by omega) (by omega) (by omega)).tr ((FM.put (by omega) (by omega) (by omega) (by omega)).tr ((FM.put (by omega) (by omega) (by omega) (by omega)).tr (FM.put (by omega) (by omega) (by omega) (by omega))))
          · rw [sc_s]
            exact hW.addPiece hi (by omega) hkb ⟨f1, a1'⟩ ⟨by omega, by omega⟩
  · rw [e2, if_pos z00] at eM
    rw [e1, if_pos z00] at eC
    exact ⟨0, U, V, eM, eC, T1.rf V, FM.rf U, Or.inl rfl⟩
