theorem bnd_p {ρ σ γ : Type} {r : ρ} {w : σ} {f : ρ → σ → γ} : bnd (r, w) f = f r w := rfl
theorem bns_p {σ γ : Type} {p : σ} {f : σ → γ} : bns p f = f p := rfl
theorem RNe {L : Nat → Int32} {t : Nat} (ht : t ≤ 96) {p n q : Nat} (hp : p < 192) (hn : n ≤ 3) {u : Nat → Nat → Int32} (hT : TP L t u q) (hq : q ≤ t) : ∃ U, (nd L t n q = n → sX7_readsNumber u (ii p) (ii n) (ii n) = (1, U)) ∧ (¬ nd L t n q = n → sX7_readsNumber u (ii p) (ii n) (ii n) = (0, U)) ∧ (∀ r, r ≠ 15 → r ≠ 17 → U r = u r) ∧ TP L t U (q + nd L t n q) ∧ (∀ j, U 15 j = if j = p then nv L t n q 0 else u 15 j) ∧ q + nd L t n q ≤ t := by
  obtain ⟨U, e, g1, g2, g3⟩ := RN ht (p := p) (least := n) (most := n) hp (by omega) hn hT hq
  have hle := nd_le L t n q
  exact ⟨U, fun c => by rw [e, if_neg (by omega)], fun c => by rw [e, if_pos (by omega)], g1, g2, g3, nd_t L t n q hq⟩
theorem e_pc {L : Nat → Int32} {t q : Nat} (hL : ∀ j, j < t → rg (L j) 0 255) : (0 : Int32) ≤ sX7_pieceOf (if q < t then L q else -1) ↔ ft L t 80 q = true := by
  rw [ft80]
  by_cases c : q < t
  · rw [if_pos c, (of_eq (hL q c)).2]
    refine ⟨fun h => ⟨c, fun z => by have := i_lt z; have := i_le h; omega⟩, fun h => Int32.not_lt.mp h.2⟩
  · rw [if_neg c]
    refine ⟨fun h => absurd h (by decide), fun h => absurd h.1 c⟩
theorem e_lc {L : Nat → Int32} {t q : Nat} (hL : ∀ j, j < t → rg (L j) 0 255) : (0 : Int32) ≤ sX7_layerOf (if q < t then L q else -1) ↔ ft L t 76 q = true := by
  rw [ft76]
  by_cases c : q < t
  · rw [if_pos c, (of_eq (hL q c)).1]
    refine ⟨fun h => ⟨c, fun z => by have := i_lt z; have := i_le h; omega⟩, fun h => Int32.not_lt.mp h.2⟩
  · rw [if_neg c]
    refine ⟨fun h => absurd h (by decide), fun h => absurd h.1 c⟩
theorem TP.put {L : Nat → Int32} {t q : Nat} {u : Nat → Nat → Int32} (h : TP L t u q) {j : Nat} {x : Int32} : TP L t (st u 15 j x) q := ⟨by rw [st_o (by decide)]; exact h.1, by rw [st_o (by decide)]; exact h.2.1, by rw [st_o (by decide)]; exact h.2.2⟩
theorem TP.mv {L : Nat → Int32} {t q : Nat} {u : Nat → Nat → Int32} (h : TP L t u q) (z : Nat) : TP L t (st u 17 0 (ii z)) z := ⟨by rw [st_o (by decide)]; exact h.1, by rw [st_o (by decide)]; exact h.2.1, st_rd⟩
theorem H_w {L : Nat → Int32} {t : Nat} {v u : Nat → Nat → Int32} (h : LV L t v) (ht : t ≤ 96) (hL : ∀ j, j < t → rg (L j) 0 255) {p k : Nat} (hk : k < 48) (hp : p < t) (hT : TP L t u (p + 1)) (hc : L p = 119) : HRES L t v u p k 4 119 := by
  obtain ⟨U, e1, e0, g1, g2, g3, g4⟩ := RNe ht (p := 4 * k) (n := 1) (by omega) (by omega) hT (by omega)
  have hr := fun m => r_d1 h ht (f := 4) (s := 0) (q := p + 1) (m := m) (by omega) (by decide) (by decide) (by omega)
  by_cases c1 : nd L t 1 (p + 1) = 1
  · have e' : sX7_readsNumber u (ii (4 * k)) 1 1 = (1, U) := e1 c1
    rw [c1] at g2 g4
    have hr2 := fun m => r_s h ht (f := 4) (s := 1) (q := p + 1 + 1) (m := m) (sym := 80) (by omega) (by decide) g4 (by decide) (by decide)
    obtain ⟨V, hV⟩ : ∃ V, V = st U 15 (4 * k + 1) (sX7_pieceOf (if p + 1 + 1 < t then L (p + 1 + 1) else -1)) := ⟨_, rfl⟩
    have TV : TP L t V (p + 1 + 1) := by rw [hV]; exact g2.put
    have rV : V 15 (4 * k + 1) = sX7_pieceOf (if p + 1 + 1 < t then L (p + 1 + 1) else -1) := by rw [hV]; exact st_rd
    have fV : ∀ r, r ≠ 15 → r ≠ 17 → V r = u r := fun r a b => by rw [hV, st_o a, g1 r a b]
    have jV : ∀ j, j ≠ 4 * k + 1 → V 15 j = if j = 4 * k then nv L t 1 (p + 1) 0 else u 15 j := fun j hj => by
      rw [hV, st_s]; unfold upd; rw [if_neg hj, g3 j]
    by_cases c2 : ft L t 80 (p + 1 + 1) = true
    · have b2 := (ft80.mp c2).1
      have p2 := (e_pc hL).mpr c2
      have TV2 := TV.mv (p + 1 + 1 + 1)
      obtain ⟨X, f1, f0, k1, k2, k3, k4⟩ := RNe ht (p := 4 * k + 2) (n := 2) (by omega) (by omega) TV2 (by omega)
      have hr3 := fun m => r_d2 h ht (f := 4) (s := 2) (q := p + 1 + 1 + 1) (m := m) (by omega) (by decide) (by decide) (by decide) (by omega)
      have hAA : sX7_readsAll u 119 (ii (4 * k)) = bnd (sX7_readsNumber (st V 17 0 (ii (p + 1 + 1 + 1))) (ii (4 * k + 2)) 2 2) (fun rn_10 wn_10 => (if rn_10 = 0 then (0, wn_10) else bnd (sX7_readsNumber wn_10 (ii (4 * k + 3)) 1 1) (fun rn_12 wn_12 => (if rn_12 = 0 then (0, wn_12) else (1, wn_12))))) := by
        unfold sX7_readsAll sX7_readsPiece
        rw [if_neg (by decide), if_neg (by decide), if_neg (by decide), if_pos rfl, e']
        simp only [bnd, bns]
        rw [if_neg n10, ii_s, ii_n (by omega), e_next g2 ht g4, ← hV, rV, if_pos p2, TV.2.2, ii_s, ii_s2, show ii (4 * k) + 3 = ii (4 * k + 3) from ii_a _ 3]
      have jX : ∀ j, j < 4 * k → X 15 j = u 15 j := fun j hj => by rw [k3 j, if_neg (by omega), st_o (by decide), jV j (by omega), if_neg (by omega)]
      have fX : ∀ r, r ≠ 15 → r ≠ 17 → X r = u r := fun r a b => by rw [k1 r a b, st_o b, fV r a b]
      by_cases c3 : nd L t 2 (p + 1 + 1 + 1) = 2
      · rw [c3] at k2 k4
        obtain ⟨Y, o1, o0, s1, s2, s3, s4⟩ := RNe ht (p := 4 * k + 3) (n := 1) (by omega) (by omega) k2 k4
        have hr4 := fun m => r_d1 h ht (f := 4) (s := 4) (q := p + 1 + 1 + 1 + 2) (m := m) (by omega) (by decide) (by decide) k4
        have f1' : sX7_readsNumber (st V 17 0 (ii (p + 1 + 1 + 1))) (ii (4 * k + 2)) 2 2 = (1, X) := f1 c3
        have jY : ∀ j, j < 4 * k → Y 15 j = u 15 j := fun j hj => by rw [s3 j, if_neg (by omega), jX j hj]
        have fY : ∀ r, r ≠ 15 → r ≠ 17 → Y r = u r := fun r a b => by rw [s1 r a b, fX r a b]
        by_cases c4 : nd L t 1 (p + 1 + 1 + 1 + 2) = 1
        · have o1' : sX7_readsNumber X (ii (4 * k + 3)) 1 1 = (1, Y) := o1 c4
          rw [c4] at s2 s4
          refine ⟨Y, p + 1 + 1 + 1 + 2 + 1, by omega, s4, s2, fY, jY, Or.inr ⟨?_, Or.inr (Or.inl ⟨hc, rfl, ?_, ?_, ?_, ?_, ?_⟩), fun j a b => ?_, 5, fun m hm => ?_, fun m hm => ?_⟩⟩
          · rw [hAA, f1']; simp only [bnd]; rw [if_neg n10, o1', if_neg n10]
          · rw [s3, if_neg (by omega), k3, if_neg (by omega), st_o (by decide), jV _ (by omega), if_pos rfl]
          · rw [s3, if_neg (by omega), k3, if_neg (by omega), st_o (by decide), rV, if_pos b2]
          · rw [if_pos b2] at p2
            exact i_le p2
          · rw [s3, if_neg (by omega), k3, if_pos rfl]
          · rw [s3, if_pos rfl]
          · by_cases q1 : j = p + 1
            · subst q1; exact dg_59 (t := t) (nd_dig 1 (p + 1) (p + 1) (by omega) (by omega))
            · by_cases q2 : j = p + 1 + 1
              · subst q2
                intro z
                have := (ft80.mp c2).2
                rw [z] at this
                exact this (by decide)
              · by_cases q3 : j < p + 1 + 1 + 1 + 2
                · exact dg_59 (t := t) (nd_dig 2 (p + 1 + 1 + 1) j (by omega) (by omega))
                · exact dg_59 (t := t) (nd_dig 1 (p + 1 + 1 + 1 + 2) j (by omega) (by omega))
          · rw [hr m hm, if_pos c1, hr2 (m - 1) (by omega), if_pos c2, hr3 (m - 1 - 1) (by omega), if_pos c3, hr4 (m - 1 - 1 - 2) (by omega), if_pos c4, show p + 1 + 1 + 1 + 2 + 1 - (p + 1) = 5 by omega, show m - 1 - 1 - 2 - 1 = m - 5 by omega]
          · exact r_s h ht (by omega) (by decide) s4 (by decide) (by decide) hm
        · have o0' : sX7_readsNumber X (ii (4 * k + 3)) 1 1 = (0, Y) := o0 c4
          refine ⟨Y, p + 1 + 1 + 1 + 2 + nd L t 1 (p + 1 + 1 + 1 + 2), by omega, s4, s2, fY, jY, Or.inl ⟨?_, fun m hm => ?_⟩⟩
          · rw [hAA, f1']; simp only [bnd]; rw [if_neg n10, o0', if_pos z00]
          · rw [hr m hm, if_pos c1, hr2 (m - 1) (by omega), if_pos c2, hr3 (m - 1 - 1) (by omega), if_pos c3, hr4 (m - 1 - 1 - 2) (by omega), if_neg c4]
      · have f0' : sX7_readsNumber (st V 17 0 (ii (p + 1 + 1 + 1))) (ii (4 * k + 2)) 2 2 = (0, X) := f0 c3
        refine ⟨X, p + 1 + 1 + 1 + nd L t 2 (p + 1 + 1 + 1), by omega, k4, k2, fX, jX, Or.inl ⟨?_, fun m hm => ?_⟩⟩
        · rw [hAA, f0']; simp only [bnd]; rw [if_pos trivial]
        · rw [hr m hm, if_pos c1, hr2 (m - 1) (by omega), if_pos c2, hr3 (m - 1 - 1) (by omega), if_neg c3]
    · refine ⟨V, p + 1 + 1, by omega, g4, TV, fV, fun j hj => by rw [jV j (by omega), if_neg (by omega)], Or.inl ⟨?_, fun m hm => ?_⟩⟩
      · unfold sX7_readsAll sX7_readsPiece
        rw [if_neg (by decide), if_neg (by decide), if_neg (by decide), if_pos rfl, e']
        simp only [bnd, bns]
        rw [if_neg n10, ii_s, ii_n (by omega), e_next g2 ht g4, ← hV, rV, if_neg (fun z => c2 ((e_pc hL).mp z))]
      · rw [hr m hm, if_pos c1, hr2 (m - 1) (by omega), if_neg c2]
  · have e' : sX7_readsNumber u (ii (4 * k)) 1 1 = (0, U) := e0 c1
    refine ⟨U, p + 1 + nd L t 1 (p + 1), by omega, g4, g2, g1, fun j hj => by rw [g3 j, if_neg (by omega)], Or.inl ⟨?_, fun m hm => by rw [hr m hm, if_neg c1]⟩⟩
    unfold sX7_readsAll sX7_readsPiece
    rw [if_neg (by decide), if_neg (by decide), if_neg (by decide), if_pos rfl, e']
    simp only [bnd]
    rw [if_pos trivial]
theorem H_y {L : Nat → Int32} {t : Nat} {v u : Nat → Nat → Int32} (h : LV L t v) (ht : t ≤ 96) (hL : ∀ j, j < t → rg (L j) 0 255) {p k : Nat} (hk : k < 48) (hp : p < t) (hT : TP L t u (p + 1)) (hc : L p = 121) : HRES L t v u p k 3 121 := by
  have hr := fun m => r_s h ht (f := 3) (s := 0) (q := p + 1) (m := m) (sym := 76) (by omega) (by decide) (by omega) (by decide) (by decide)
  obtain ⟨V, hV⟩ : ∃ V, V = st u 15 (4 * k) (sX7_layerOf (if p + 1 < t then L (p + 1) else -1)) := ⟨_, rfl⟩
  have TV : TP L t V (p + 1) := by rw [hV]; exact hT.put
  have rV : V 15 (4 * k) = sX7_layerOf (if p + 1 < t then L (p + 1) else -1) := by rw [hV]; exact st_rd
  have fV : ∀ r, r ≠ 15 → r ≠ 17 → V r = u r := fun r a b => by rw [hV, st_o a]
  have jV : ∀ j, j ≠ 4 * k → V 15 j = u 15 j := fun j hj => by rw [hV, st_s]; unfold upd; rw [if_neg hj]
  by_cases c1 : ft L t 76 (p + 1) = true
  · have b1 := (ft76.mp c1).1
    have p1 := (e_lc hL).mpr c1
    obtain ⟨X, f1, f0, k1, k2, k3, k4⟩ := RNe ht (p := 4 * k + 1) (n := 2) (by omega) (by omega) (TV.mv (p + 1 + 1)) (by omega)
    have hr2 := fun m => r_d2 h ht (f := 3) (s := 1) (q := p + 1 + 1) (m := m) (by omega) (by decide) (by decide) (by decide) (by omega)
    have hA1 : sX7_readsAll u 121 (ii (4 * k)) = bnd (sX7_readsNumber (st V 17 0 (ii (p + 1 + 1))) (ii (4 * k + 1)) 2 2) (fun rn_8 wn_8 => (if rn_8 = 0 then (0, wn_8) else bnd (sX7_readsNumber wn_8 (ii (4 * k + 2)) 1 1) (fun rn_10 wn_10 => (if rn_10 = 0 then (0, wn_10) else (if (sX7_next wn_10) = 43 then bns (st wn_10 17 0 ((wn_10 17 0) + 1)) (fun wn_23 => bnd (sX7_readsNumber wn_23 (ii (4 * k + 3)) 1 1) (fun rn_24 wn_24 => (if rn_24 = 0 then (0, wn_24) else bns (st wn_24 15 (4 * k + 3) ((wn_24 15 (4 * k + 3)) * 1)) (fun wn_27 => (1, wn_27))))) else (if (sX7_next wn_10) = 45 then bns (st wn_10 17 0 ((wn_10 17 0) + 1)) (fun wn_17 => bnd (sX7_readsNumber wn_17 (ii (4 * k + 3)) 1 1) (fun rn_18 wn_18 => (if rn_18 = 0 then (0, wn_18) else bns (st wn_18 15 (4 * k + 3) ((wn_18 15 (4 * k + 3)) * (-1))) (fun wn_21 => (1, wn_21))))) else (0, wn_10))))))) := by
      unfold sX7_readsAll sX7_readsLayer
      rw [if_neg (by decide), if_neg (by decide), if_neg (by decide), if_neg (by decide), if_pos rfl]
      simp only [bnd, bns]
      rw [ii_n (by omega), e_next hT ht (by omega), ← hV, rV, if_pos p1, TV.2.2, ii_s, ii_s, ii_s2, show ii (4 * k) + 3 = ii (4 * k + 3) from ii_a _ 3, ii_n (by omega)]
    have jX : ∀ j, j < 4 * k → X 15 j = u 15 j := fun j hj => by rw [k3 j, if_neg (by omega), st_o (by decide), jV j (by omega)]
    have fX : ∀ r, r ≠ 15 → r ≠ 17 → X r = u r := fun r a b => by rw [k1 r a b, st_o b, fV r a b]
    by_cases c2 : nd L t 2 (p + 1 + 1) = 2
    · have f1' : sX7_readsNumber (st V 17 0 (ii (p + 1 + 1))) (ii (4 * k + 1)) 2 2 = (1, X) := f1 c2
      rw [c2] at k2 k4
      obtain ⟨Y, o1, o0, s1, s2, s3, s4⟩ := RNe ht (p := 4 * k + 2) (n := 1) (by omega) (by omega) k2 k4
      have hr3 := fun m => r_d1 h ht (f := 3) (s := 3) (q := p + 1 + 1 + 2) (m := m) (by omega) (by decide) (by decide) k4
      have jY : ∀ j, j < 4 * k → Y 15 j = u 15 j := fun j hj => by rw [s3 j, if_neg (by omega), jX j hj]
      have fY : ∀ r, r ≠ 15 → r ≠ 17 → Y r = u r := fun r a b => by rw [s1 r a b, fX r a b]
      by_cases c3 : nd L t 1 (p + 1 + 1 + 2) = 1
      · have o1' : sX7_readsNumber X (ii (4 * k + 2)) 1 1 = (1, Y) := o1 c3
        rw [c3] at s2 s4
        have hr4 := fun m => r_s h ht (f := 3) (s := 4) (q := p + 1 + 1 + 2 + 1) (m := m) (sym := 43) (by omega) (by decide) s4 (by decide) (by decide)
        have en := e_next s2 ht s4
        by_cases c4 : ft L t 43 (p + 1 + 1 + 2 + 1) = true
        · obtain ⟨b4, b5⟩ := ft43.mp c4
          rw [if_pos b4] at en
          obtain ⟨Z, y1, y0, x1, x2, x3, x4⟩ := RNe ht (p := 4 * k + 3) (n := 1) (by omega) (by omega) (s2.mv (p + 1 + 1 + 2 + 1 + 1)) (by omega)
          have hr5 := fun m => r_d1 h ht (f := 3) (s := 5) (q := p + 1 + 1 + 2 + 1 + 1) (m := m) (by omega) (by decide) (by decide) (by omega)
          have jZ : ∀ j, j < 4 * k → Z 15 j = u 15 j := fun j hj => by rw [x3 j, if_neg (by omega), st_o (by decide), jY j hj]
          have fZ : ∀ r, r ≠ 15 → r ≠ 17 → Z r = u r := fun r a b => by rw [x1 r a b, st_o b, fY r a b]
          have n43 : ¬ (45 : Int32) = 43 := by decide
          by_cases c5 : nd L t 1 (p + 1 + 1 + 2 + 1 + 1) = 1
          · have y1' : sX7_readsNumber (st Y 17 0 (ii (p + 1 + 1 + 2 + 1 + 1))) (ii (4 * k + 3)) 1 1 = (1, Z) := y1 c5
            rw [c5] at x2 x4
            have hfin : sX7_readsAll u 121 (ii (4 * k)) = (1, st Z 15 (4 * k + 3) (Z 15 (4 * k + 3) * (if L (p + 1 + 1 + 2 + 1) = 43 then 1 else -1))) := by
              rw [hA1, f1', bnd_p]
              try dsimp only
              rw [if_neg n10, o1', bnd_p]
              try dsimp only
              rw [if_neg n10, en]
              rcases b5 with b5 | b5
              · rw [b5, if_pos rfl, if_pos rfl, s2.2.2, ii_s, bns_p]
                try dsimp only
                rw [y1', bnd_p]
                try dsimp only
                rw [if_neg n10, bns_p]
              · rw [b5, if_neg n43, if_neg n43, if_pos rfl, s2.2.2, ii_s, bns_p]
                try dsimp only
                rw [y1', bnd_p]
                try dsimp only
                rw [if_neg n10, bns_p]
            refine ⟨_, p + 1 + 1 + 2 + 1 + 1 + 1, by omega, x4, x2.put, fun r a b => by rw [st_o a, fZ r a b], fun j hj => ?_, Or.inr ⟨hfin, Or.inl ⟨hc, rfl, ?_, ?_, ?_, ?_, b5, ?_⟩, fun j a b => ?_, 6, fun m hm => ?_, fun m hm => ?_⟩⟩
            · rw [st_s]; unfold upd; rw [if_neg (by omega), jZ j hj]
            · rw [st_s]; unfold upd; rw [if_neg (by omega), x3, if_neg (by omega), st_o (by decide), s3, if_neg (by omega), k3, if_neg (by omega), st_o (by decide), rV, if_pos b1]
            · rw [if_pos b1] at p1
              exact i_le p1
            · rw [st_s]; unfold upd; rw [if_neg (by omega), x3, if_neg (by omega), st_o (by decide), s3, if_neg (by omega), k3, if_pos rfl]
            · rw [st_s]; unfold upd; rw [if_neg (by omega), x3, if_neg (by omega), st_o (by decide), s3, if_pos rfl]
            · rw [st_rd, x3, if_pos rfl]
            · by_cases q1 : j = p + 1
              · subst q1
                intro z
                have := (ft76.mp c1).2
                rw [z] at this
                exact this (by decide)
              · by_cases q2 : j < p + 1 + 1 + 2
                · exact dg_59 (t := t) (nd_dig 2 (p + 1 + 1) j (by omega) (by omega))
                · by_cases q3 : j = p + 1 + 1 + 2
                  · exact dg_59 (t := t) (nd_dig 1 (p + 1 + 1 + 2) j (by omega) (by omega))
                  · by_cases q4 : j = p + 1 + 1 + 2 + 1
                    · subst q4
                      intro z
                      rcases b5 with b5 | b5
                      · rw [b5] at z; exact absurd z (by decide)
                      · rw [b5] at z; exact absurd z (by decide)
                    · exact dg_59 (t := t) (nd_dig 1 (p + 1 + 1 + 2 + 1 + 1) j (by omega) (by omega))
            · rw [hr m hm, if_pos c1, hr2 (m - 1) (by omega), if_pos c2, hr3 (m - 1 - 2) (by omega), if_pos c3, hr4 (m - 1 - 2 - 1) (by omega), if_pos c4, hr5 (m - 1 - 2 - 1 - 1) (by omega), if_pos c5, show p + 1 + 1 + 2 + 1 + 1 + 1 - (p + 1) = 6 by omega, show m - 1 - 2 - 1 - 1 - 1 = m - 6 by omega]
            · exact r_s h ht (by omega) (by decide) x4 (by decide) (by decide) hm
          · have y0' : sX7_readsNumber (st Y 17 0 (ii (p + 1 + 1 + 2 + 1 + 1))) (ii (4 * k + 3)) 1 1 = (0, Z) := y0 c5
            refine ⟨Z, p + 1 + 1 + 2 + 1 + 1 + nd L t 1 (p + 1 + 1 + 2 + 1 + 1), by omega, x4, x2, fZ, jZ, Or.inl ⟨?_, fun m hm => ?_⟩⟩
            · rw [hA1, f1', bnd_p]
              try dsimp only
              rw [if_neg n10, o1', bnd_p]
              try dsimp only
              rw [if_neg n10, en]
              rcases b5 with b5 | b5
              · rw [b5, if_pos rfl, s2.2.2, ii_s, bns_p]
                try dsimp only
                rw [y0', bnd_p]
                exact if_pos rfl
              · rw [b5, if_neg n43, if_pos rfl, s2.2.2, ii_s, bns_p]
                try dsimp only
                rw [y0', bnd_p]
                exact if_pos rfl
            · rw [hr m hm, if_pos c1, hr2 (m - 1) (by omega), if_pos c2, hr3 (m - 1 - 2) (by omega), if_pos c3, hr4 (m - 1 - 2 - 1) (by omega), if_pos c4, hr5 (m - 1 - 2 - 1 - 1) (by omega), if_neg c5]
        · refine ⟨Y, p + 1 + 1 + 2 + 1, by omega, s4, s2, fY, jY, Or.inl ⟨?_, fun m hm => ?_⟩⟩
          · have h43 : ¬ sX7_next Y = 43 ∧ ¬ sX7_next Y = 45 := by
              rw [en]
              by_cases b4 : p + 1 + 1 + 2 + 1 < t
              · rw [if_pos b4]
                exact ⟨fun z => c4 (ft43.mpr ⟨b4, Or.inl z⟩), fun z => c4 (ft43.mpr ⟨b4, Or.inr z⟩)⟩
              · rw [if_neg b4]
                exact ⟨by decide, by decide⟩
            rw [hA1, f1']
            simp only [bnd, bns]
            rw [if_neg n10, o1', if_neg n10, if_neg h43.1, if_neg h43.2]
          · rw [hr m hm, if_pos c1, hr2 (m - 1) (by omega), if_pos c2, hr3 (m - 1 - 2) (by omega), if_pos c3, hr4 (m - 1 - 2 - 1) (by omega), if_neg c4]
      · have o0' : sX7_readsNumber X (ii (4 * k + 2)) 1 1 = (0, Y) := o0 c3
        refine ⟨Y, p + 1 + 1 + 2 + nd L t 1 (p + 1 + 1 + 2), by omega, s4, s2, fY, jY, Or.inl ⟨?_, fun m hm => ?_⟩⟩
        · rw [hA1, f1']; simp only [bnd]; rw [if_neg n10, o0', if_pos z00]
        · rw [hr m hm, if_pos c1, hr2 (m - 1) (by omega), if_pos c2, hr3 (m - 1 - 2) (by omega), if_neg c3]
    · have f0' : sX7_readsNumber (st V 17 0 (ii (p + 1 + 1))) (ii (4 * k + 1)) 2 2 = (0, X) := f0 c2
      refine ⟨X, p + 1 + 1 + nd L t 2 (p + 1 + 1), by omega, k4, k2, fX, jX, Or.inl ⟨?_, fun m hm => ?_⟩⟩
      · rw [hA1, f0']; simp only [bnd]; rw [if_pos trivial]
      · rw [hr m hm, if_pos c1, hr2 (m - 1) (by omega), if_neg c2]
  · refine ⟨V, p + 1, Nat.le_refl _, by omega, TV, fV, fun j hj => jV j (by omega), Or.inl ⟨?_, fun m hm => ?_⟩⟩
    · unfold sX7_readsAll sX7_readsLayer
      rw [if_neg (by decide), if_neg (by decide), if_neg (by decide), if_neg (by decide), if_pos rfl]
      simp only [bnd, bns]
      rw [ii_n (by omega), e_next hT ht (by omega), ← hV, rV, if_neg (fun z => c1 ((e_lc hL).mp z))]
    · rw [hr m hm, if_neg c1]
