theorem mul_m1 (x : Int32) : x * -1 = -x := by rw [Int32.mul_comm, ← Int32.neg_eq_neg_one_mul]
theorem e_lay0 {n : Nat} {a : Nat → Nat → Int32} (h6 : a 6 0 = ii n) (hn : n < 12) {kd x o l : Int32} (h : x < 1 ∨ 20 < x ∨ ¬ (if 0 ≤ l then l else 0 - l) ≤ 5) : sX4_lay a kd x o l = (0, a) := by
  have e12 : (12 : Int32) = ii 12 := rfl
  unfold sX4_lay
  rw [h6, e12, ifle (by omega) (by omega), if_neg (show ¬ 12 ≤ n by omega)]
  by_cases c1 : x < 1
  · rw [if_pos c1]
  · rw [if_neg c1]
    by_cases c2 : 20 < x
    · rw [if_pos c2]
    · rw [if_neg c2]
      rcases h with h | h | h
      · exact absurd h c1
      · exact absurd h c2
      · rw [if_neg h]
theorem e_abs {l : Int32} (hl : rg l (-9) 9) : (if 0 ≤ l then l else 0 - l) ≤ 5 ↔ rg l (-5) 5 := by
  obtain ⟨l1, l2⟩ := hl
  by_cases c : (0 : Int32) ≤ l
  · have c1 := i_le c
    rw [q_0] at c1
    rw [if_pos c]
    exact ⟨fun q => by have := i_le q; rw [q_5] at this; exact ⟨by omega, this⟩, fun q => Int32.le_iff_toInt_le.mpr (by rw [q_5]; exact q.2)⟩
  · have c1 := i_nle c
    rw [q_0] at c1
    have e := i_subl (a := 0) (b := l) q_0 (by omega) (by omega)
    rw [if_neg c]
    exact ⟨fun q => by have := i_le q; rw [q_5, e] at this; exact ⟨by omega, by omega⟩, fun q => Int32.le_iff_toInt_le.mpr (by rw [q_5, e]; have := q.1; omega)⟩
theorem C_y {L : Nat → Int32} {t : Nat} {v U : Nat → Nat → Int32} {V : Nat → Nat → Nat → Int32} (hV : V 3 = v) (h : LV L t v) (ht : t ≤ 96) (hL : ∀ j, j < t → rg (L j) 0 255) {p k n : Nat} {c : Nat → Nat} (hk : k < 48) (hp : p + 8 ≤ t) (hW : WR n c (V 1) U) (hn : n ≤ 11) (h60 : ∀ j, j < 12 → U 6 j = 0) (h13 : U 13 k = L p) (hc : L p = 121) (d0 : U 15 (4 * k) = sX7_layerOf (L (p + 1))) (d0' : 0 ≤ (sX7_layerOf (L (p + 1))).toInt) (d1 : U 15 (4 * k + 1) = nv L t 2 (p + 2) 0) (d2 : U 15 (4 * k + 2) = nv L t 1 (p + 4) 0) (h5 : L (p + 5) = 43 ∨ L (p + 5) = 45) (d3 : U 15 (4 * k + 3) = nv L t 1 (p + 6) 0 * (if L (p + 5) = 43 then 1 else -1)) : CRES t v U V p k := by
  have hb1 := nv2_b L t (p + 2) rg00 (by omega) (by omega)
  have hb2 := nv1_b L t (p + 4) rg00 (by omega) (by omega)
  have hb3 := nv1_b L t (p + 6) rg00 (by omega) (by omega)
  have e4 : (4 : Int32) * ii k = ii (4 * k) := ii_m 4 k
  have eA1 : sX1_at v (ii p + 1) = L (p + 1) := by rw [ii_s, e_at h ht (by omega), if_pos (by omega)]
  have eA5 : sX1_at v (ii p + 5) = L (p + 5) := by rw [show ii p + 5 = ii (p + 5) from ii_a p 5, e_at h ht (by omega), if_pos (by omega)]
  have eN : sX1_number v (ii p + 2) 2 = nv L t 2 (p + 2) 0 := by
    rw [ii_s2]
    exact e_number h ht (q := p + 2) (most := 2) (by omega) (by omega)
  have eD4 : sX1_digit v (ii p + 4) = nv L t 1 (p + 4) 0 := by rw [show ii p + 4 = ii (p + 4) from ii_a p 4]; exact e_digit h ht (by omega)
  have eD6 : sX1_digit v (ii p + 6) = nv L t 1 (p + 6) 0 := by rw [show ii p + 6 = ii (p + 6) from ii_a p 6]; exact e_digit h ht (by omega)
  obtain ⟨x, hx⟩ : ∃ x, x = nv L t 2 (p + 2) 0 := ⟨_, rfl⟩
  obtain ⟨o, ho⟩ : ∃ o, o = nv L t 1 (p + 4) 0 := ⟨_, rfl⟩
  obtain ⟨l, hl⟩ : ∃ l, l = nv L t 1 (p + 6) 0 * (if L (p + 5) = 43 then 1 else -1) := ⟨_, rfl⟩
  obtain ⟨kd, hkd⟩ : ∃ kd, kd = sX7_layerOf (L (p + 1)) := ⟨_, rfl⟩
  have hof := (of_eq (hL (p + 1) (by omega))).1
  have hkb : rg kd 0 6 := ⟨by rw [hkd]; exact d0', by rw [hkd]; exact lc_b _⟩
  rw [← hx] at d1 hb1 eN
  rw [← ho] at d2 hb2 eD4
  rw [← hl] at d3
  rw [← hkd] at d0 hof
  obtain ⟨x1, x2⟩ := hb1
  obtain ⟨o1, o2⟩ := hb2
  obtain ⟨g1, g2⟩ := hb3
  have n43 : ¬ (45 : Int32) = 43 := by decide
  have n45 : ¬ (43 : Int32) = 45 := by decide
  have e11 : (11 : Int32) = ii 11 := rfl
  have hlb : rg l (-9) 9 := by
    rcases h5 with h5 | h5
    · rw [hl, h5, if_pos rfl, Int32.mul_one]; exact ⟨by omega, by omega⟩
    · rw [hl, h5, if_neg n43, mul_m1]
      have e := i_neg (a := nv L t 1 (p + 6) 0) (by omega)
      exact ⟨by omega, by omega⟩
  have eC : sX6_readStatement V (ii p) = (if 11 ≤ n then (0, V) else bnd (sX4_lay (V 1) kd x o l) (fun rn_10 un_10 => bns (sc V 1 un_10) (fun wn_10 => (if rn_10 = 0 then (0, wn_10) else (1, wn_10))))) := by
    unfold sX6_readStatement sX6_readLayer
    rw [hV, e_at h ht (by omega), if_pos (show p < t by omega), hc, if_neg (by decide), if_neg (by decide), if_neg (by decide), if_neg (by decide), if_neg (by decide), if_pos rfl, eA1, eA5, eN, eD4, eD6, hof, hW.a6, e11, ifle (by omega) (by omega), ifle (by omega) (by omega)]
    rcases h5 with h5 | h5
    · rw [hl, h5, if_neg n45, if_pos rfl, Int32.mul_one]
      rfl
    · rw [hl, h5, if_pos rfl, if_neg n43, mul_m1]
      rfl
  have eM : sX7_comes U (ii k) = (if (sX7_isIn x 1 20) = 0 then (0, U) else (if (sX7_isIn l (-5) 5) = 0 then (0, U) else (if ii n = 11 then (0, U) else (1, st (st (st (st (st U 2 n kd) 3 n x) 4 n o) 5 n l) 11 0 (ii (n + 1)))))) := by
    have y2 : ii (4 * k) + 2 = ii (4 * k + 2) := ii_a _ 2
    have y3 : ii (4 * k) + 3 = ii (4 * k + 3) := ii_a _ 3
    have z0 : (ii (4 * k)).toNatClampNeg = 4 * k := ii_n (by omega)
    have z1 : (ii (4 * k + 1)).toNatClampNeg = 4 * k + 1 := ii_n (by omega)
    have z2 : (ii (4 * k + 2)).toNatClampNeg = 4 * k + 2 := ii_n (by omega)
    have z3 : (ii (4 * k + 3)).toNatClampNeg = 4 * k + 3 := ii_n (by omega)
    have zn : (ii n).toNatClampNeg = n := ii_n (by omega)
    have p1 : ∀ u j y, st u 2 j y 15 = u 15 := fun u j y => st_o (by decide)
    have p2 : ∀ u j y, st u 3 j y 15 = u 15 := fun u j y => st_o (by decide)
    have p3 : ∀ u j y, st u 4 j y 15 = u 15 := fun u j y => st_o (by decide)
    have p4 : ∀ u j y, st u 2 j y 11 = u 11 := fun u j y => st_o (by decide)
    have p5 : ∀ u j y, st u 3 j y 11 = u 11 := fun u j y => st_o (by decide)
    have p6 : ∀ u j y, st u 4 j y 11 = u 11 := fun u j y => st_o (by decide)
    have p7 : ∀ u j y, st u 5 j y 11 = u 11 := fun u j y => st_o (by decide)
    unfold sX7_comes sX7_comesLayer
    rw [ii_n (by omega), h13, hc, if_neg (by decide), if_neg (by decide), if_neg (by decide), if_neg (by decide), if_pos rfl, e4]
    simp only [bns, y2, y3, ii_s, z0, z1, z2, z3, d0, d1, d2, d3, p1, p2, p3, p4, p5, p6, p7, hW.w11, zn]
    rfl
  by_cases c11 : 11 ≤ n
  · rw [if_pos c11] at eC
    rw [if_pos (show ii n = 11 by rw [show n = 11 by omega]; rfl), if_same', if_same'] at eM
    exact ⟨0, U, V, eM, eC, T1.rf V, FM.rf U, Or.inl rfl⟩
  · rw [if_neg c11] at eC
    have fail : (x < 1 ∨ 20 < x ∨ ¬ (if 0 ≤ l then l else 0 - l) ≤ 5) → sX7_comes U (ii k) = (0, U) → CRES t v U V p k := fun hf hm => by
      refine ⟨0, U, V, hm, ?_, T1.rf V, FM.rf U, Or.inl rfl⟩
      rw [eC, e_lay0 hW.a6 (by omega) hf, bnd_p, bns_p, sc_same]
      exact if_pos rfl
    rcases isIn_c x 1 20 with ⟨a1, a2, a⟩ | ⟨a1, a⟩
    · rcases isIn_c l (-5) 5 with ⟨b1, b2, b⟩ | ⟨b1, b⟩
      · have a1' := i_le a1
        have a2' := i_le a2
        have b1' := i_le b1
        have b2' := i_le b2
        rw [q_1] at a1'
        rw [q_20] at a2'
        rw [q_m5] at b1'
        rw [q_5] at b2'
        rw [a, if_neg n10, b, if_neg n10, if_neg (fun z => c11 (by have := (ii_inj (k := n) (j := 11) (by omega) (by omega)).mp z; omega))] at eM
        have one : ∀ (u : Nat → Nat → Int32) (r : Nat) (y : Int32) (q j : Nat), j ≠ n → st u r n y q j = u q j := fun u r y q j hj => by
          by_cases e : q = r
          · subst e; rw [st_s]; unfold upd; rw [if_neg hj]
          · rw [st_o e]
        obtain ⟨U', hU⟩ : ∃ U', U' = st (st (st (st (st U 2 n kd) 3 n x) 4 n o) 5 n l) 11 0 (ii (n + 1)) := ⟨_, rfl⟩
        obtain ⟨t1, t2⟩ := hW.lay (u := U') (kd := kd) (s := x) (o := o) (l := l) (by omega) hkb ⟨a1', a2'⟩ ⟨o1, by omega⟩ ⟨b1', b2'⟩ (fun j hj => by rw [hU, st_o (by decide), st_o (by decide), st_o (by decide), st_o (by decide), st_o (by decide)]) (fun q a b j hj => by
          rw [hU, st_o (by omega), one _ _ _ q j (by omega), one _ _ _ q j (by omega), one _ _ _ q j (by omega), one _ _ _ q j (by omega)]) (fun q a b j hj => by rw [hU, st_o (by omega), st_o (by omega), st_o (by omega), st_o (by omega), st_o (by omega)]) (fun j hj => by rw [hU, st_o (by decide), st_o (by decide), st_o (by decide), st_o (by decide), st_o (by decide)]) (by rw [hU, st_rd]) (by rw [hU, st_o (by decide), st_o (by decide), st_o (by decide), st_o (by decide), st_rd]) (by rw [hU, st_o (by decide), st_o (by decide), st_o (by decide), st_rd]) (by rw [hU, st_o (by decide), st_o (by decide), st_rd]) (by rw [hU, st_o (by decide), st_rd]) (by rw [hU, st_o (by decide), st_o (by decide), st_o (by decide), st_o (by decide), st_o (by decide)]; exact h60 n (by omega))
        rw [← hU] at eM
        refine ⟨1, U', sc V 1 (sX4_lay (V 1) kd x o l).2, eM, ?_, (T1.rf V).sc _, ?_, Or.inr ⟨rfl, n + 1, c, by omega, by rw [sc_s]; exact t2⟩⟩
        · rw [eC]
          simp only [bnd, bns]
          rw [t1]
          exact if_neg n10
        · have l2 : lnr 2 = 12 := rfl
          have l3 : lnr 3 = 12 := rfl
          have l4 : lnr 4 = 12 := rfl
          have l5 : lnr 5 = 12 := rfl
          rw [hU]
          exact FM.put11.tr ((FM.put (by omega) (by omega) (by omega) (by omega)).tr ((FM.put (by omega) (by omega) (by omega) (by omega)).tr ((FM.put (by omega) (by omega) (by omega) (by omega)).tr (FM.put (by omega) (by omega) (by omega) (by omega)))))
      · rw [a, if_neg n10, b, if_pos z00] at eM
        refine fail (Or.inr (Or.inr fun z => ?_)) eM
        obtain ⟨w1, w2⟩ := (e_abs hlb).mp z
        rcases b1 with b1 | b1
        · have := i_lt b1
          rw [q_m5] at this
          omega
        · have := i_lt b1
          rw [q_5] at this
          omega
    · rw [a, if_pos z00] at eM
      rcases a1 with a1 | a1
      · exact fail (Or.inl a1) eM
      · exact fail (Or.inr (Or.inl a1)) eM
theorem CM {L : Nat → Int32} {t : Nat} {v U : Nat → Nat → Int32} {V : Nat → Nat → Nat → Int32} (hV : V 3 = v) (h : LV L t v) (ht : t ≤ 96) (hL : ∀ j, j < t → rg (L j) 0 255) {p z k n : Nat} {c : Nat → Nat} (hk : k < 48) (hS : SH L t U p z k) (hW : WR n c (V 1) U) (hn : n ≤ 11) (h60 : ∀ j, j < 12 → U 6 j = 0) : CRES t v U V p k := by
  obtain ⟨s1, s2, s3, s4, s5, s6, s7⟩ := hS
  rcases s5 with ⟨a1, a2, a3, a4, a5, a6, a7, a8⟩ | ⟨a1, a2, a3, a4, a5, a6, a7⟩ | ⟨a1, a2⟩ | ⟨a1, a2, a3⟩ | ⟨a1, a2⟩ | a1
  · exact C_y hV h ht hL hk (by omega) hW hn h60 s4 a1 a3 a4 a5 a6 a7 a8
  · exact C_w hV h ht hL hk (by omega) hW hn s4 a1 a3 a4 a5 a6 a7
  · exact C_r hV h ht hk (by omega) hW hn s4 a1 a2
  · exact C_k hV h ht hk (by omega) hW hn s4 a1 a2 a3
  · exact C_f hV h ht hk (by omega) hW hn s4 a1 a2
  · exact C_u hV h ht hk (by omega) hW hn s4 a1
theorem SH.same {L : Nat → Int32} {t : Nat} {U V : Nat → Nat → Int32} {p z k : Nat} (h : SH L t V p z k) (h13 : U 13 = V 13) (h14 : U 14 = V 14) (h15 : U 15 = V 15) : SH L t U p z k := by
  unfold SH DAT at h ⊢
  rw [h13, h14, h15]
  exact h
theorem CH.same {L : Nat → Int32} {t : Nat} {U V : Nat → Nat → Int32} (h13 : U 13 = V 13) (h14 : U 14 = V 14) (h15 : U 15 = V 15) : ∀ d k p, CH L t V d k p → CH L t U d k p := by
  intro d
  induction d with
  | zero => intro k p h; exact h
  | succ d ih =>
    intro k p h
    obtain ⟨z, h1, h2⟩ := h
    exact ⟨z, h1.same h13 h14 h15, ih (k + 1) z h2⟩
theorem SCAN {L : Nat → Int32} {t : Nat} {v : Nat → Nat → Int32} {V : Nat → Nat → Nat → Int32} (hV : V 3 = v) (h : LV L t v) (ht : t ≤ 96) {z : Nat} (hz : z < t) (x1 x2 : Int32) : ∀ (d q m : Nat), q + d = z → (∀ j, q ≤ j → j < z → ¬ L j = 59) → d < m → sX6_readStatements_17 m x1 x2 (ii q) V = sX6_readStatements_17 (m - d) x1 x2 (ii z) V := by
  intro d
  induction d with
  | zero => intro q m h1 _ _; rw [show q = z by omega, Nat.sub_zero]
  | succ d ih =>
    intro q m h1 h2 h3
    cases m with
    | zero => omega
    | succ m =>
      rw [sX6_readStatements_17, hV, h.1, ifle (by omega) (by omega), if_neg (show ¬ t ≤ q by omega), e_at h ht (by omega), if_pos (show q < t by omega), if_neg (h2 q (Nat.le_refl _) (by omega)), ii_s, ih (q + 1) m (by omega) (fun j a b => h2 j (by omega) b) (by omega), show m + 1 - (d + 1) = m - d by omega]
