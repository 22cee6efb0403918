theorem L_keep {W : Nat → Nat → Nat → Int32} {w : Nat → Nat → Int32} (h : REL W w) (r : Int32) (V : Nat → Nat → Nat → Int32) (U : Nat → Nat → Int32) (hV : ∀ k, k ≠ 1 → k ≠ 3 → V k = W k) (hV3 : V 3 1 0 = 0) (h16 : U 16 0 = 0) (h7 : ST7 U) (hq : ∀ q, q ≠ 13 → q ≠ 14 → q ≠ 15 → q ≠ 16 → q ≠ 17 → q ≠ 18 → q ≠ 19 → q ≠ 21 → q ≠ 22 → q ≠ 23 → q ≠ 24 → q ≠ 25 → q ≠ 28 → U q = w q) (h19 : ∀ j, j < 125 → U 19 j = w 19 j) : OK (r, V) (r, U) := by
  obtain ⟨⟨n, c, gW⟩, gF, gL, gR, gI, gS⟩ := h
  have e := fun (q : Nat) (a : q ≤ 12 ∨ q = 20 ∨ 26 ≤ q ∧ q ≤ 27) => hq q (by omega) (by omega) (by omega) (by omega) (by omega) (by omega) (by omega) (by omega) (by omega) (by omega) (by omega) (by omega) (by omega)
  exact OK.mk rfl ⟨⟨n, c, gW.keep (hV 0 (by decide) (by decide)) (fun q a b => e q (by omega))⟩, gF.keep (hV 5 (by decide) (by decide)) (e 0 (by omega)), LT0 hV3 h16, gR.keep (hV 4 (by decide) (by decide)) (e 27 (by omega)) (e 26 (by omega)), gI.keep (hV 2 (by decide) (by decide)) (by rw [hV 5 (by decide) (by decide)]) h19 (by rw [e 20 (by omega)]), h7⟩
theorem L_t0 {L : Nat → Int32} {u : Nat → Nat → Int32} (hT : TP L 0 u 0) (h18 : u 18 0 = ii 0) (F : Nat) : sX7_load_12 (F + 1 + 1) 1 u = (-1000 - ii 0, st (st u 18 0 (ii 0 + 0)) 16 0 0) := by
  have hn : sX7_next u = -1 := by rw [e_next hT (by omega) (by omega), if_neg (by omega)]
  have hst : sX7_statement u = (0, u) := by
    unfold sX7_statement
    rw [hn, if_neg (by decide), if_neg (by decide), if_neg (by decide), if_neg (by decide), if_neg (by decide), if_neg (by decide)]
  rw [sX7_load_12, if_neg n10, hT.2.2, hT.1, if_neg (Int32.lt_irrefl), h18, if_pos (show ii 0 = 0 from rfl), hst, bnd_p]
  try dsimp only
  rw [if_pos z00, bns_p, h18, sX7_load_12, if_pos z00, bns_p]
  try dsimp only
  rw [st_o (show ¬ 17 = 16 by decide), st_o (show ¬ 17 = 18 by decide), hT.2.2]
theorem L_0 {W : Nat → Nat → Nat → Int32} {w u : Nat → Nat → Int32} (h : REL W w) (hm : sX7_load w = sX7_load_12 196 1 u) (hT : TP (w 12) 0 u 0) (h18 : u 18 0 = ii 0) (uw : ∀ r, r ≠ 17 → r ≠ 18 → u r = w r) (t2 : W 3 1 0 = ii 0) : OK (sX6_load W) (sX7_load w) := by
  have hf : sX1_firstOutOfForm (W 3) = ii 0 := by rw [L_f (t := 0) (by omega) t2, if_pos rfl]
  rw [L_c0 (z := 0) (by omega) hf, hm, L_t0 hT h18 194]
  refine L_keep h _ _ _ (fun k a b => sc_o b) (by rw [sc_s, st_rd]) st_rd ⟨by rw [st_o (by decide), st_o (by decide), hT.2.2]; exact ⟨by decide, by decide⟩, by rw [st_o (by decide), st_rd]; exact ⟨by decide, by decide⟩⟩ (fun q a b d e f g _ _ _ _ _ _ _ => by rw [st_o e, st_o g, uw q f g]) (fun j _ => by rw [st_o (by decide), st_o (by decide), uw 19 (by decide) (by decide)])
theorem L_1 {W : Nat → Nat → Nat → Int32} {w u U : Nat → Nat → Int32} (h : REL W w) (hm : sX7_load w = sX7_load_12 196 1 u) (uw : ∀ r, r ≠ 17 → r ≠ 18 → u r = w r) {z : Nat} (hz : z ≤ 96) (hf : sX1_firstOutOfForm (W 3) = ii z) (a2 : sX7_load_12 196 1 u = (-1000 - ii z, U)) (a4 : FR U u 0) (a5 : U 16 0 = 0) (a6 : rg (U 17 0) 0 96) (a7 : rg (U 18 0) 0 48) : OK (sX6_load W) (sX7_load w) := by
  rw [L_c0 hz hf, hm, a2]
  exact L_keep h _ _ _ (fun k a b => sc_o b) (by rw [sc_s, st_rd]) a5 ⟨a6, a7⟩ (fun q a b d e f g _ _ _ _ _ _ _ => by rw [a4.1 q a b d e f g, uw q f g]) (fun j _ => by rw [a4.1 19 (by decide) (by decide) (by decide) (by decide) (by decide) (by decide), uw 19 (by decide) (by decide)])
theorem L_2 {W V' : Nat → Nat → Nat → Int32} {w U U' : Nat → Nat → Int32} (h : REL W w) {z : Nat} (hf : sX1_firstOutOfForm (W 3) = -1) (hm : sX7_load w = (-2000 - ii z, U')) (Uw : ∀ q, q ≠ 13 → q ≠ 14 → q ≠ 15 → q ≠ 16 → q ≠ 17 → q ≠ 18 → U q = w q) (b16 : U 16 0 = 0) (a9 : rg (U 17 0) 0 96) (a5 : rg (U 18 0) 0 48) (b2 : sX6_readStatements_17 97 (ii 0) (ii 0) (ii 0) (sc W 1 (sX4_become (W 1) (W 0))) = (-2000 - ii z, V')) (b3 : T1 V' W) (b5 : SQ U' U) : OK (sX6_load W) (sX7_load w) := by
  rw [L_c1 hf b2, hm]
  have s := fun (q : Nat) (a : q ≤ 12 ∨ 16 ≤ q ∧ q ≤ 18 ∨ q = 20 ∨ 26 ≤ q ∧ q ≤ 27 ∨ 29 ≤ q) => b5.1 q (by omega) (by omega) (by omega) (by omega) (by omega) (by omega) (by omega) (by omega) (by omega) (by omega)
  exact L_keep h _ _ _ (fun k a b => by rw [sc_o b]; exact b3 k a) (by rw [sc_s, st_rd]) (by rw [s 16 (by omega)]; exact b16) ⟨by rw [s 17 (by omega)]; exact a9, by rw [s 18 (by omega)]; exact a5⟩ (fun q x1 x2 x3 x4 x5 x6 x7 x8 x9 y1 y2 y3 y4 => by rw [b5.1 q x1 x2 x3 x7 x8 x9 y1 y2 y3 y4, Uw q x1 x2 x3 x4 x5 x6]) (fun j hj => by rw [b5.2 j hj, Uw 19 (by decide) (by decide) (by decide) (by decide) (by decide) (by decide)])
theorem L_3 {W V' : Nat → Nat → Nat → Int32} {w U U' : Nat → Nat → Int32} (h : REL W w) {K n' : Nat} {c' : Nat → Nat} (hf : sX1_firstOutOfForm (W 3) = -1) (hm : sX7_load w = (ii K, U')) (Uw : ∀ q, q ≠ 13 → q ≠ 14 → q ≠ 15 → q ≠ 16 → q ≠ 17 → q ≠ 18 → U q = w q) (b16 : U 16 0 = 0) (a9 : rg (U 17 0) 0 96) (a5 : rg (U 18 0) 0 48) (hB6 : ∀ j, j < 12 → U 6 j = 0) (b2 : sX6_readStatements_17 97 (ii 0) (ii 0) (ii 0) (sc W 1 (sX4_become (W 1) (W 0))) = (ii K, sc V' 0 (sX4_become (V' 0) (V' 1)))) (b3 : T1 V' W) (b5 : n' ≤ 11) (b6 : WR n' c' (V' 1) U') (b7 : FM U' (sX7_passesAll U 1 1)) : OK (sX6_load W) (sX7_load w) := by
  obtain ⟨-, gF, gL, gR, gI, gS⟩ := id h
  rw [L_c1 hf b2, hm]
  have hk : ∀ q, q ≠ 19 → q ≠ 21 → q ≠ 22 → sX7_passesAll U 1 1 q = U q := fun q a b d => iX7_save q a b d
  have x12 : ∀ q, (q = 0 ∨ 12 ≤ q) → q ≠ 19 → q ≠ 21 → q ≠ 22 → U' q = U q := fun q a b d e => by rw [b7.1 q a, hk q b d e]
  have x0 : ∀ q, (q = 0 ∨ q = 12 ∨ q = 20 ∨ q = 26 ∨ q = 27) → U' q = w q := fun q a => by rw [x12 q (by omega) (by omega) (by omega) (by omega), Uw q (by omega) (by omega) (by omega) (by omega) (by omega) (by omega)]
  obtain ⟨s1, s2, s3⟩ := pa_save U 1 (by omega)
  have e1 : sX7_passesAll U (ii 1) 1 = sX7_passesAll U 1 1 := rfl
  rw [e1] at s3
  refine OK.mk rfl ⟨⟨n', c', b5, ?_, fun j hj => by rw [b7.2.2.2, hk 6 (by decide) (by decide) (by decide)]; exact hB6 j hj⟩, gF.keep (by rw [sc_o (by decide), sc_o (by decide)]; exact b3 5 (by decide)) (x0 0 (by omega)), LT0 (by rw [sc_s, st_rd]) (by rw [x12 16 (by omega) (by decide) (by decide) (by decide)]; exact b16), gR.keep (by rw [sc_o (by decide), sc_o (by decide)]; exact b3 4 (by decide)) (x0 27 (by omega)) (x0 26 (by omega)), gI.keep (by rw [sc_o (by decide), sc_o (by decide)]; exact b3 2 (by decide)) (by rw [sc_o (by decide), sc_o (by decide), b3 5 (by decide)]) (fun j hj => by rw [b7.1 19 (by omega), s3 j (by omega), Uw 19 (by decide) (by decide) (by decide) (by decide) (by decide) (by decide)]) (by rw [x0 20 (by omega)]), ⟨by rw [x12 17 (by omega) (by decide) (by decide) (by decide)]; exact a9, by rw [x12 18 (by omega) (by decide) (by decide) (by decide)]; exact a5⟩⟩
  rw [sc_o (by decide), sc_s]
  exact b6.become _
theorem L_4 {W : Nat → Nat → Nat → Int32} {w U : Nat → Nat → Int32} {t K n : Nat} {c : Nat → Nat} (h : REL W w) (gW : IW n c (W 0) w) (hV : LV (w 12) t (W 3)) (t1 : t ≤ 96) (hL : ∀ j, j < t → rg (w 12 j) 0 255) (hf : sX1_firstOutOfForm (W 3) = -1) (hm : sX7_load w = sX7_load_86 49 (ii 0) (sX7_passesAll U 1 1)) (Uw : ∀ q, q ≠ 13 → q ≠ 14 → q ≠ 15 → q ≠ 16 → q ≠ 17 → q ≠ 18 → U q = w q) (hK : K ≤ 48) (a5 : U 18 0 = ii K) (a6 : CH (w 12) t U K 0 0) (b16 : U 16 0 = 0) (a9 : rg (U 17 0) 0 96) : OK (sX6_load W) (sX7_load w) := by
  have hk : ∀ q, q ≠ 19 → q ≠ 21 → q ≠ 22 → sX7_passesAll U 1 1 q = U q := fun q a b d => iX7_save q a b d
  have hWR : WR n c (sc W 1 (sX4_become (W 1) (W 0)) 1) (sX7_passesAll U 1 1) := by
    rw [sc_s]
    exact (gW.2.1.become _).keep (fun q a b => by rw [hk q (by omega) (by omega) (by omega), Uw q (by omega) (by omega) (by omega) (by omega) (by omega) (by omega)])
  have hC : CH (w 12) t (sX7_passesAll U 1 1) K 0 0 := CH.same (hk 13 (by decide) (by decide) (by decide)) (hk 14 (by decide) (by decide) (by decide)) (hk 15 (by decide) (by decide) (by decide)) K 0 0 a6
  have hB6 : ∀ j, j < 12 → U 6 j = 0 := fun j hj => by rw [Uw 6 (by decide) (by decide) (by decide) (by decide) (by decide) (by decide)]; exact gW.2.2 j hj
  have h18 : sX7_passesAll U 1 1 18 0 = ii K := by rw [hk 18 (by decide) (by decide) (by decide)]; exact a5
  have r18 : rg (U 18 0) 0 48 := by rw [a5, rg, ii_t (by omega)]; omega
  have key := fun F m (hF : 48 < F) (hm : 96 < m) => P2 (B := U) (W := W) hV t1 hL rfl hK hB6 K 0 0 n F m c (sc W 1 (sX4_become (W 1) (W 0))) (sX7_passesAll U 1 1) (by omega) hC (by omega) (by omega) (by omega) ((T1.rf W).sc _) hWR gW.1 h18 (FM.rf _)
  rcases key 49 97 (by omega) (by omega) with ⟨z, V', U', b1, b2, b3, b4, b5⟩ | ⟨V', U', n', c', b2, b3, b4, b5, b6, b7⟩
  · exact L_2 h hf (hm.trans b4) Uw b16 a9 r18 b2 b3 b5
  · exact L_3 h hf (hm.trans b4) Uw b16 a9 r18 hB6 b2 b3 b5 b6 b7
theorem S_load {W : Nat → Nat → Nat → Int32} {w : Nat → Nat → Int32} (h : REL W w) : OK (sX6_load W) (sX7_load w) := by
  obtain ⟨⟨n, c, gW⟩, gF, ⟨t, t1, t2, t3, t4⟩, gR, gI, gS⟩ := id h
  have hL : ∀ j, j < t → rg (w 12 j) 0 255 := fun j hj => (t4 j hj).2
  have hV : LV (w 12) t (W 3) := ⟨t2, fun j hj => (t4 j hj).1⟩
  obtain ⟨u, hu⟩ : ∃ u, u = st (st w 17 0 0) 18 0 0 := ⟨_, rfl⟩
  have hT : TP (w 12) t u 0 := by
    rw [hu]
    exact ⟨by rw [st_o (by decide), st_o (by decide)]; exact t3, by rw [st_o (by decide), st_o (by decide)], by rw [st_o (by decide), st_rd]; rfl⟩
  have h18 : u 18 0 = ii 0 := by rw [hu, st_rd]; rfl
  have uw : ∀ r, r ≠ 17 → r ≠ 18 → u r = w r := fun r a b => by rw [hu, st_o b, st_o a]
  have eM : sX7_load w = sX7_load_12 196 1 u := by rw [hu]; exact L_m
  by_cases h0 : t = 0
  · subst h0
    exact L_0 h eM hT h18 uw t2
  · have hfo : sX1_firstOutOfForm (W 3) = sX1_firstOutOfForm_16 (W 3) 97 2 (ii 0) (ii 0) := by rw [L_f t1 t2, if_neg h0]
    have key := fun F (hF : F = 196) => P1 hV t1 (by omega) hL F 0 0 2 0 u hT h18 (by omega) (by omega) (fun _ => rfl) (by omega) (by omega) (by decide) (by omega)
    rcases key 196 rfl with ⟨U, z, a1, a2, a3, a4, a5, a6, a7⟩ | ⟨U, K, a1, a2, a3, a4, a5, a6, a7, a8, a9⟩
    · exact L_1 h eM uw (by omega) (by rw [hfo, a3 97 (by omega)]) a2 a4 a5 a6 a7
    · exact L_4 h gW hV t1 hL (by rw [hfo, a2 97 (by omega)]) (eM.trans a1) (fun q a b d e f g => by rw [a7.1 q a b d e f g, uw q f g]) a3 a5 a6 a8 a9
