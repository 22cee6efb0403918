theorem e_minmax {x y : Int32} : (if x < y then x else y) = (if y ≤ x then y else x) := by
  by_cases c : x < y
  · rw [if_pos c, if_neg (fun q => by have := i_lt c; have := i_le q; omega)]
  · rw [if_neg c, if_pos (Int32.le_iff_toInt_le.mpr (i_nlt c))]
def HS (a w : Nat → Nat → Int32) (r s : Int32 × (Nat → Nat → Int32)) : Prop := r.1 = s.1 ∧ (∀ q, q ≠ 9 → r.2 q = a q) ∧ ∀ q, q ≠ 25 → s.2 q = w q
theorem e_home {n : Nat} {c : Nat → Nat} {a w : Nat → Nat → Int32} (h : WR n c a w) (h1 : 1 ≤ n) {i b t : Nat} (hi : i < 2) (hb : b ≤ 4) (hb1 : 1 ≤ b) (ht : t ≤ 999) : ∀ (m k : Nat) (x6 x7 : Int32) (A W : Nat → Nat → Int32), (∀ q, q ≠ 9 → A q = a q) → (∀ q, q ≠ 25 → W q = w q) → (∀ j, j < 4 → A 9 j = W 25 j) → (∀ j, j < 4 → rg (W 25 j) 0 2000) → k ≤ t → (k : Int) ≤ x6.toInt → x6.toInt ≤ t → t - k < m → HS a w (sX4_sheavesHome_59 a (ii i) (ii b) (ii t) m x6 x7 (ii k) A) (sX7_homeSheaves_48 w (ii i) (ii b) (ii t) m x6 (x7 * sX7_allSheaves w) W) := by
  have hn := h.n
  have hP := h.pitch_b h.s2
  have hG := h.minutes_b hi
  have eP : sX4_pitchingMinutes a (a 7 2) = sX7_pitchMinutes w (w 1 2) := by rw [h.S (by omega)]; exact h.pitch h.s2.1
  have eG : sX5_allMinutes (wy a ((ii i).toNatClampNeg)) = sX7_minutesOf w (ii i) := by rw [ii_n (by omega)]; exact h.minutes hi
  have eS4 := e_sheaves4 h.a6 hn
  have eS7 := e_sheaves7 h.w11 hn
  have eS := h.sheaves
  have e73 := h.S (j := 3) (by omega)
  obtain ⟨P, rP⟩ : ∃ P, P = sX7_pitchMinutes w (w 1 2) := ⟨_, rfl⟩
  obtain ⟨G, rG⟩ : ∃ G, G = sX7_minutesOf w (ii i) := ⟨_, rfl⟩
  obtain ⟨S, rS⟩ : ∃ S, S = sX7_allSheaves w := ⟨_, rfl⟩
  rw [← rP] at eP hP
  rw [← rG] at eG hG
  rw [← rS] at eS
  rw [← rS]
  have hD : ∀ M : Int32, rg M 0 3000 → (M + P).toInt = M.toInt + P.toInt ∧ (((M + P) + G) + P).toInt = M.toInt + P.toInt + G.toInt + P.toInt ∧ ((((M + P) + G) + P) + G).toInt = M.toInt + P.toInt + G.toInt + P.toInt + G.toInt := fun M hM => by
    obtain ⟨m1, m2⟩ := hM
    have d1 := i_add (a := M) (b := P) (by omega) (by omega)
    have d2 := i_add (a := M + P) (b := G) (by omega) (by omega)
    have d3 := i_add (a := M + P + G) (b := P) (by omega) (by omega)
    have d4 := i_add (a := M + P + G + P) (b := G) (by omega) (by omega)
    omega
  intro m
  induction m with
  | zero => intro k x6 x7 A W _ _ _ _ _ _ _ h9; omega
  | succ m ih =>
    intro k x6 x7 A W hA hW hAW hB hk hk6 h6t hm
    have kS4 : sX4_allSheaves A = S := by
      rw [e_sheaves4 (by rw [hA 6 (by decide)]; exact h.a6) hn, hA 1 (by decide), ← eS4, eS]
    have kS7 : sX7_allSheaves W = S := by
      rw [e_sheaves7 (by rw [hW 11 (by decide)]; exact h.w11) hn, hW 3 (by decide), ← eS7, rS]
    obtain ⟨z, hz, ez, e54⟩ := e_back hAW w (ii i) (ii t) x6 (x7 * S) (sX7_homeSheaves_48 w (ii i) (ii b) (ii t) m) hb 4 4 0 1 (by omega) hb1 (by omega) (by omega)
    have eF : sX4_firstBack A (ii b) = ii z := ez
    have e55 : sX7_homeSheaves_54 w (ii i) (ii b) (ii t) x6 (x7 * S) W (sX7_homeSheaves_48 w (ii i) (ii b) (ii t) m) 4 0 1 = _ := e54
    have hBz := hB z hz
    have key : ∀ M : Int32, rg M 0 3000 → x6.toInt ≤ M.toInt → HS a w (if t ≤ k then ((if x7 * S < w 1 3 then x7 * S else w 1 3), A) else if (((M + P) + G) + P) ≤ ii t then sX4_sheavesHome_59 a (ii i) (ii b) (ii t) m (M + P) (x7 + 1) (ii (k + 1)) (st A 9 z ((((M + P) + G) + P) + G)) else ((if x7 * S < w 1 3 then x7 * S else w 1 3), A)) (if (((M + P) + G) + P) ≤ ii t then sX7_homeSheaves_48 w (ii i) (ii b) (ii t) m (M + P) (x7 * S + S) (st W 25 z ((((M + P) + G) + P) + G)) else if w 1 3 ≤ x7 * S then (w 1 3, W) else (x7 * S, W)) := by
      intro M hM hxM
      obtain ⟨d1, d2, d3⟩ := hD M hM
      have hP1 := hP.2.2 h1
      obtain ⟨m1, m2⟩ := hM
      have tt := ii_t (k := t) (by omega)
      by_cases f : (((M + P) + G) + P) ≤ ii t
      · have f1 := i_le f
        rw [if_neg (by omega), if_pos f, if_pos f, show x7 * S + S = (x7 + 1) * S from Int32.succ_mul.symm]
        refine ih (k + 1) (M + P) (x7 + 1) _ _ (fun q hq => by rw [st_o hq, hA q hq]) (fun q hq => by rw [st_o hq, hW q hq]) (fun j hj => ?_) (fun j hj => ?_) (by omega) (by omega) (by omega) (by omega)
        · rw [st_s, st_s]
          unfold upd
          split
          · rfl
          · exact hAW j hj
        · rw [st_s]
          unfold upd
          split
          · exact ⟨by omega, by omega⟩
          · exact hB j hj
      · rw [if_neg f, if_neg f]
        have e1 : (if t ≤ k then ((if x7 * S < w 1 3 then x7 * S else w 1 3), A) else ((if x7 * S < w 1 3 then x7 * S else w 1 3), A)) = ((if x7 * S < w 1 3 then x7 * S else w 1 3), A) := by split <;> rfl
        have e2 : (if w 1 3 ≤ x7 * S then (w 1 3, W) else (x7 * S, W)) = ((if w 1 3 ≤ x7 * S then w 1 3 else x7 * S), W) := by split <;> rfl
        rw [e1, e2, e_minmax]
        exact ⟨rfl, hA, hW⟩
    rw [sX4_sheavesHome_59, sX7_homeSheaves_48, ifle (by omega) (by omega), kS4, eF, eP, eG, ii_n (by omega), hA 7 (by decide), e73, hAW z hz, e55, sX7_homeSheaves_54, if_pos (Int32.le_refl _), ii_n (by omega), ← rP, ← rG, kS7, hW 1 (by decide), ii_s]
    simp only [bns]
    obtain ⟨z1, z2⟩ := hBz
    by_cases d : W 25 z ≤ x6
    · have d' : ¬ x6 < W 25 z := fun q => by have := i_lt q; have := i_le d; omega
      rw [if_pos d, if_neg d']
      exact key x6 ⟨by omega, by omega⟩ (by omega)
    · have d' : x6 < W 25 z := Int32.lt_iff_toInt_lt.mpr (i_nle d)
      have := i_lt d'
      rw [if_neg d, if_pos d']
      exact key (W 25 z) ⟨by omega, by omega⟩ (by omega)
theorem WR.sheavesHome {n : Nat} {c : Nat → Nat} {a w : Nat → Nat → Int32} (h : WR n c a w) (h1 : 1 ≤ n) {i b t : Nat} (hi : i < 2) (hb : b ≤ 4) (hb1 : 1 ≤ b) (ht : t ≤ 999) : HS a w (sX4_sheavesHome a (ii i) (ii b) (ii t)) (sX7_homeSheaves w (ii i) (ii b) (ii t)) := by
  have key : ∀ (m k : Nat) (A W : Nat → Nat → Int32), k ≤ 4 → 4 - k < m → (∀ q, q ≠ 9 → A q = a q) → (∀ q, q ≠ 25 → W q = w q) → (∀ j, j < k → A 9 j = 0 ∧ W 25 j = 0) → HS a w (sX4_sheavesHome_26 a (ii i) (ii b) (ii t) m (ii k) A) (sX7_homeSheaves_28 w (ii i) (ii b) (ii t) m (ii k) W) := by
    intro m
    induction m with
    | zero => intro k A W _ h9; omega
    | succ m ih =>
      intro k A W hk hm hA hW h0
      have e4 : (4 : Int32) = ii 4 := rfl
      rw [sX4_sheavesHome_26, sX7_homeSheaves_28, e4, ifle (by omega) (by omega), ifle (by omega) (by omega), ii_n (by omega), ii_s]
      by_cases d : 4 ≤ k
      · rw [if_pos d, if_pos d]
        have e := e_home h h1 hi hb hb1 ht 1000 0 0 0 A W hA hW (fun j hj => by rw [(h0 j (by omega)).1, (h0 j (by omega)).2]) (fun j hj => by rw [(h0 j (by omega)).2]; exact ⟨by decide, by decide⟩) (by omega) (by rw [q_0]; omega) (by rw [q_0]; omega) (by omega)
        rw [Int32.zero_mul] at e
        exact e
      · rw [if_neg d, if_neg d]
        simp only [bns]
        refine ih (k + 1) _ _ (by omega) (by omega) (fun q hq => by rw [st_o hq, hA q hq]) (fun q hq => by rw [st_o hq, hW q hq]) (fun j hj => ?_)
        rw [st_s, st_s]
        unfold upd
        by_cases e : j = k
        · rw [if_pos e, if_pos e]; exact ⟨rfl, rfl⟩
        · rw [if_neg e, if_neg e]; exact h0 j (by omega)
  exact key 5 0 a w (by omega) (by omega) (fun _ _ => rfl) (fun _ _ => rfl) (fun j hj => by omega)
