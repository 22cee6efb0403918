/-! all statements -/
def SH (L : Nat → Int32) (t : Nat) (U : Nat → Nat → Int32) (p z k : Nat) : Prop := p + 2 ≤ z ∧ z ≤ t ∧ U 14 k = ii p ∧ U 13 k = L p ∧ DAT L t U p k (z - 1) ∧ (∀ j, p ≤ j → j + 1 < z → ¬ L j = 59) ∧ L (z - 1) = 59
def FR (U u : Nat → Nat → Int32) (k : Nat) : Prop := (∀ r, r ≠ 13 → r ≠ 14 → r ≠ 15 → r ≠ 16 → r ≠ 17 → r ≠ 18 → U r = u r) ∧ (∀ j, j < k → U 13 j = u 13 j ∧ U 14 j = u 14 j) ∧ ∀ j, j < 4 * k → U 15 j = u 15 j
theorem FR.tr {U V u : Nat → Nat → Int32} {k k' : Nat} (h : FR U V k') (g : FR V u k) (hk : k ≤ k') : FR U u k := ⟨fun r a b c d e f => by rw [h.1 r a b c d e f, g.1 r a b c d e f], fun j hj => by rw [(h.2.1 j (by omega)).1, (h.2.1 j (by omega)).2]; exact g.2.1 j hj, fun j hj => by rw [h.2.2 j (by omega), g.2.2 j hj]⟩
theorem SH.keep {L : Nat → Int32} {t : Nat} {U V : Nat → Nat → Int32} {p z k k' : Nat} (h : SH L t V p z k) (g : FR U V k') (hk : k < k') : SH L t U p z k := by
  obtain ⟨h1, h2, h3, h4, h5, h6, h7⟩ := h
  refine ⟨h1, h2, by rw [(g.2.1 k hk).2]; exact h3, by rw [(g.2.1 k hk).1]; exact h4, ?_, h6, h7⟩
  unfold DAT at h5 ⊢
  rw [g.2.2 _ (by omega), g.2.2 (4 * k + 1) (by omega), g.2.2 (4 * k + 2) (by omega), g.2.2 (4 * k + 3) (by omega)]
  exact h5
def CH (L : Nat → Int32) (t : Nat) (U : Nat → Nat → Int32) : Nat → Nat → Nat → Prop
  | 0, _, p => p = t
  | d + 1, k, p => ∃ z, SH L t U p z k ∧ CH L t U d (k + 1) z
def sU (u : Nat → Nat → Int32) (k p : Nat) (c : Int32) : Nat → Nat → Int32 := st (st (st u 13 k c) 14 k (ii p)) 17 0 (ii (p + 1))
def sT (k : Nat) (q : Int32 × (Nat → Nat → Int32)) : Int32 × (Nat → Nat → Int32) := bnd q (fun rn_11 wn_11 => (if rn_11 = 0 then (0, wn_11) else (if (sX7_next wn_11) = 59 then bns (st wn_11 17 0 ((wn_11 17 0) + 1)) (fun wn_16 => (1, wn_16)) else (0, wn_11))))
theorem e_stat {L : Nat → Int32} {t p k : Nat} {u : Nat → Nat → Int32} {c : Int32} (hT : TP L t u p) (h18 : u 18 0 = ii k) (hk : k < 48) (hn : sX7_next u = c) (hc : c = 121 ∨ c = 119 ∨ c = 114 ∨ c = 107 ∨ c = 102 ∨ c = 117) : sX7_statement u = sT k (sX7_readsAll (sU u k p c) c (ii (4 * k))) := by
  have e4 : (4 : Int32) * ii k = ii (4 * k) := ii_m 4 k
  have x1 : ∀ z, st u 13 k z 18 = u 18 := fun z => st_o (by decide)
  have x2 : ∀ z, st u 13 k z 17 = u 17 := fun z => st_o (by decide)
  have x3 : ∀ z y, st (st u 13 k z) 14 k y 17 = u 17 := fun z y => by rw [st_o (by decide), st_o (by decide)]
  have x4 : ∀ z y y', st (st (st u 13 k z) 14 k y) 17 0 y' 18 = u 18 := fun z y y' => by rw [st_o (by decide), st_o (by decide), st_o (by decide)]
  have xk : (ii k).toNatClampNeg = k := ii_n (by omega)
  unfold sX7_statement sT sU
  rw [hn]
  simp only [bns, h18, xk, x1, x2, x3, x4, hT.2.2, ii_s, e4]
  rcases hc with rfl | rfl | rfl | rfl | rfl | rfl
  · rw [if_pos rfl]
  · rw [if_neg (by decide), if_pos rfl]
  · rw [if_neg (by decide), if_neg (by decide), if_pos rfl]
  · rw [if_neg (by decide), if_neg (by decide), if_neg (by decide), if_pos rfl]
  · rw [if_neg (by decide), if_neg (by decide), if_neg (by decide), if_neg (by decide), if_pos rfl]
  · rw [if_neg (by decide), if_neg (by decide), if_neg (by decide), if_neg (by decide), if_neg (by decide), if_pos rfl]
theorem sU_f (u : Nat → Nat → Int32) (k p : Nat) (c : Int32) : FR (sU u k p c) u k ∧ sU u k p c 14 k = ii p ∧ sU u k p c 13 k = c ∧ ∀ r, r ≠ 13 → r ≠ 14 → r ≠ 17 → sU u k p c r = u r := by
  unfold sU
  refine ⟨⟨fun r a b _ _ e _ => by rw [st_o e, st_o b, st_o a], fun j hj => ?_, fun j hj => by rw [st_o (by decide), st_o (by decide), st_o (by decide)]⟩, by rw [st_o (by decide), st_rd], by rw [st_o (by decide), st_o (by decide), st_rd], fun r a b e => by rw [st_o e, st_o b, st_o a]⟩
  rw [st_o (show ¬ 13 = 17 by decide), st_o (show ¬ 13 = 14 by decide), st_s, st_o (show ¬ 14 = 17 by decide), st_s, st_o (show ¬ 14 = 13 by decide)]
  unfold upd
  rw [if_neg (by omega), if_neg (by omega)]
  exact ⟨rfl, rfl⟩
def SRES (L : Nat → Int32) (t : Nat) (v u : Nat → Nat → Int32) (p k f0 s0 : Nat) : Prop := ∃ U z, p ≤ z ∧ z ≤ t ∧ TP L t U z ∧ FR U u k ∧ U 18 = u 18 ∧ ((sX7_statement u = (0, U) ∧ ∀ m, t - p < m → sX1_firstOutOfForm_16 v m f0 (ii s0) (ii p) = ii z) ∨ (sX7_statement u = (1, U) ∧ SH L t U p z k ∧ ∃ f s, f < 9 ∧ lenS.getD f 0 ≤ s ∧ s ≤ 7 ∧ ∀ m, t - p < m → sX1_firstOutOfForm_16 v m f0 (ii s0) (ii p) = sX1_firstOutOfForm_16 v (m - (z - p)) f (ii s) (ii z)))
theorem STM1 {L : Nat → Int32} {t : Nat} {v u : Nat → Nat → Int32} (h : LV L t v) (ht : t ≤ 96) {p k f0 s0 g : Nat} {c : Int32} (hk : k < 48) (hp : p < t) (hT : TP L t u p) (h18 : u 18 0 = ii k) (hf0 : f0 < 9) (hs0 : lenS.getD f0 0 ≤ s0) (hs7 : s0 ≤ 7) (hc : L p = c) (hcc : c = 121 ∨ c = 119 ∨ c = 114 ∨ c = 107 ∨ c = 102 ∨ c = 117) (hg : g < 9) (hform : sX1_formBehind c = g) (hemp : sJ0_isEmpty_aae02 g = 0) (hH : ∀ w, TP L t w (p + 1) → HRES L t v w p k g c) : SRES L t v u p k f0 s0 := by
  have hn : sX7_next u = c := by rw [e_next hT ht (by omega), if_pos hp, hc]
  obtain ⟨q1, q2, q3, q4⟩ := sU_f u k p c
  obtain ⟨U, z, a1, a2, a3, a4, a5, a6⟩ := hH (sU u k p c) ⟨by rw [q4 16 (by decide) (by decide) (by decide)]; exact hT.1, by rw [q4 12 (by decide) (by decide) (by decide)]; exact hT.2.1, st_rd⟩
  have est := e_stat hT h18 hk hn hcc
  have hrun : ∀ m, t - p < m → sX1_firstOutOfForm_16 v m f0 (ii s0) (ii p) = sX1_firstOutOfForm_16 v (m - 1) g (ii 0) (ii (p + 1)) := fun m hm => by
    cases m with
    | zero => omega
    | succ m => rw [r_start h ht hf0 hs0 hs7 (by omega) m, if_pos hp, hc, hform, if_pos hemp]; rfl
  have fU : FR U u k := ⟨fun r a b c d e f => by rw [a4 r c e, q4 r a b e], fun j hj => by rw [a4 13 (by decide) (by decide), a4 14 (by decide) (by decide)]; exact q1.2.1 j hj, fun j hj => by rw [a5 j hj]; exact q1.2.2 j hj⟩
  have f18 : U 18 = u 18 := by rw [a4 18 (by decide) (by decide), q4 18 (by decide) (by decide) (by decide)]
  have hl := len_7 g hg
  rcases a6 with ⟨b1, b2⟩ | ⟨b1, b2, b3, s, b4, b5⟩
  · refine ⟨U, z, by omega, a2, a3, fU, f18, Or.inl ⟨?_, fun m hm => by rw [hrun m hm, b2 (m - 1) (by omega)]⟩⟩
    rw [est, b1, sT, bnd_p]
    exact if_pos rfl
  · have en := e_next a3 ht a2
    by_cases d : ft L t 59 z = true
    · obtain ⟨d1, d2⟩ := ft59.mp d
      rw [if_pos d1, d2] at en
      refine ⟨st U 17 0 (ii (z + 1)), z + 1, by omega, by omega, a3.mv (z + 1), ⟨fun r a b c d e f => by rw [st_o e, fU.1 r a b c d e f], fun j hj => by rw [st_o (by decide), st_o (by decide)]; exact fU.2.1 j hj, fun j hj => by rw [st_o (by decide)]; exact fU.2.2 j hj⟩, by rw [st_o (by decide)]; exact f18, Or.inr ⟨?_, ⟨by omega, by omega, by rw [st_o (by decide), a4 14 (by decide) (by decide)]; exact q2, by rw [st_o (by decide), a4 13 (by decide) (by decide), hc]; exact q3, ?_, fun j x y => ?_, by rw [show z + 1 - 1 = z by omega]; exact d2⟩, g, lenS.getD g 0, hg, Nat.le_refl _, hl, fun m hm => ?_⟩⟩
      · rw [est, b1, sT, bnd_p]
        try dsimp only
        rw [if_neg n10, en, if_pos rfl, a3.2.2, ii_s, bns_p]
      · rw [show z + 1 - 1 = z by omega]
        unfold DAT at b2 ⊢
        rw [st_o (by decide)]
        exact b2
      · by_cases e : j = p
        · subst e
          rw [hc]
          rcases hcc with rfl | rfl | rfl | rfl | rfl | rfl <;> decide
        · exact b3 j (by omega) (by omega)
      · rw [hrun m hm, b4 (m - 1) (by omega), b5 _ (by omega), if_pos d, show m - 1 - (z - (p + 1)) - 1 = m - (z + 1 - p) by omega]
    · refine ⟨U, z, by omega, a2, a3, fU, f18, Or.inl ⟨?_, fun m hm => by rw [hrun m hm, b4 (m - 1) (by omega), b5 _ (by omega), if_neg d]⟩⟩
      have h59 : ¬ sX7_next U = 59 := by
        rw [en]
        by_cases e : z < t
        · rw [if_pos e]; exact fun y => d (ft59.mpr ⟨e, y⟩)
        · rw [if_neg e]; decide
      rw [est, b1, sT, bnd_p]
      try dsimp only
      rw [if_neg n10, if_neg h59]
theorem STM {L : Nat → Int32} {t : Nat} {v u : Nat → Nat → Int32} (h : LV L t v) (ht : t ≤ 96) (hL : ∀ j, j < t → rg (L j) 0 255) {p k f0 s0 : Nat} (hk : k < 48) (hp : p < t) (hT : TP L t u p) (h18 : u 18 0 = ii k) (hf0 : f0 < 9) (hs0 : lenS.getD f0 0 ≤ s0) (hs7 : s0 ≤ 7) : SRES L t v u p k f0 s0 := by
  by_cases c1 : L p = 121
  · exact STM1 h ht hk hp hT h18 hf0 hs0 hs7 c1 (Or.inl rfl) (g := 3) (by omega) (by decide) (by decide) (fun w hw => H_y h ht hL hk hp hw c1)
  by_cases c2 : L p = 119
  · exact STM1 h ht hk hp hT h18 hf0 hs0 hs7 c2 (Or.inr (Or.inl rfl)) (g := 4) (by omega) (by decide) (by decide) (fun w hw => H_w h ht hL hk hp hw c2)
  by_cases c3 : L p = 114
  · exact STM1 h ht hk hp hT h18 hf0 hs0 hs7 c3 (Or.inr (Or.inr (Or.inl rfl))) (g := 5) (by omega) (by decide) (by decide) (fun w hw => H_r h ht hk hp hw c3)
  by_cases c4 : L p = 107
  · exact STM1 h ht hk hp hT h18 hf0 hs0 hs7 c4 (Or.inr (Or.inr (Or.inr (Or.inl rfl)))) (g := 6) (by omega) (by decide) (by decide) (fun w hw => H_k h ht hk hp hw c4)
  by_cases c5 : L p = 102
  · exact STM1 h ht hk hp hT h18 hf0 hs0 hs7 c5 (Or.inr (Or.inr (Or.inr (Or.inr (Or.inl rfl))))) (g := 7) (by omega) (by decide) (by decide) (fun w hw => H_f h ht hk hp hw c5)
  by_cases c6 : L p = 117
  · exact STM1 h ht hk hp hT h18 hf0 hs0 hs7 c6 (Or.inr (Or.inr (Or.inr (Or.inr (Or.inr rfl))))) (g := 8) (by omega) (by decide) (by decide) (fun w hw => H_u h ht hk hp hw c6)
  have hn : sX7_next u = L p := by rw [e_next hT ht (by omega), if_pos hp]
  refine ⟨u, p, Nat.le_refl _, by omega, hT, ⟨fun _ _ _ _ _ _ _ => rfl, fun _ _ => ⟨rfl, rfl⟩, fun _ _ => rfl⟩, rfl, Or.inl ⟨?_, fun m hm => ?_⟩⟩
  · unfold sX7_statement
    rw [hn, if_neg c1, if_neg c2, if_neg c3, if_neg c4, if_neg c5, if_neg c6]
  · have hfm : sX1_formBehind (L p) = 2 := by
      unfold sX1_formBehind
      rw [if_neg c5, if_neg c4, if_neg c3, if_neg c6, if_neg c2, if_neg c1]
    cases m with
    | zero => omega
    | succ m => rw [r_start h ht hf0 hs0 hs7 (by omega) m, if_pos hp, hfm, if_neg (by decide)]
theorem P1 {L : Nat → Int32} {t : Nat} {v : Nat → Nat → Int32} (h : LV L t v) (ht : t ≤ 96) (ht0 : 0 < t) (hL : ∀ j, j < t → rg (L j) 0 255) : ∀ (F p k f0 s0 : Nat) (u : Nat → Nat → Int32), TP L t u p → u 18 0 = ii k → p ≤ t → 2 * k ≤ p → (k = 0 → p = 0) → t - p + 2 < F → f0 < 9 → lenS.getD f0 0 ≤ s0 → s0 ≤ 7 → (∃ U z, z ≤ t ∧ sX7_load_12 F 1 u = (-1000 - ii z, U) ∧ (∀ m, t - p < m → sX1_firstOutOfForm_16 v m f0 (ii s0) (ii p) = ii z) ∧ FR U u k ∧ U 16 0 = 0 ∧ rg (U 17 0) 0 96 ∧ rg (U 18 0) 0 48) ∨ (∃ U K, sX7_load_12 F 1 u = sX7_load_86 49 0 (sX7_passesAll U 1 1) ∧ (∀ m, t - p < m → sX1_firstOutOfForm_16 v m f0 (ii s0) (ii p) = -1) ∧ K ≤ 48 ∧ k ≤ K ∧ U 18 0 = ii K ∧ CH L t U (K - k) k p ∧ FR U u k ∧ U 16 0 = 0 ∧ rg (U 17 0) 0 96) := by
  intro F
  induction F with
  | zero => intro p k f0 s0 u _ _ _ _ _ h9; omega
  | succ F ih =>
    intro p k f0 s0 u hT h18 hp h2 hk0 hF hf0 hs0 hs7
    rw [sX7_load_12, if_neg n10, hT.2.2, hT.1, h18]
    by_cases c : p < t
    · rw [if_pos ((ii_lt (by omega) (by omega)).mpr c)]
      obtain ⟨U, z, a1, a2, a3, a4, a5, a6⟩ := STM h ht hL (by omega) c hT h18 hf0 hs0 hs7
      have u18 : U 18 0 = ii k := by rw [a5]; exact h18
      rcases a6 with ⟨b1, b2⟩ | ⟨b1, b2, f, s, b3, b4, b5, b6⟩
      · left
        cases F with
        | zero => omega
        | succ F =>
          refine ⟨st (st U 18 0 (ii k)) 16 0 0, z, a2, ?_, b2, ⟨fun r a b c d e f => by rw [st_o d, st_o f, a4.1 r a b c d e f], fun j hj => by rw [st_o (by decide), st_o (by decide), st_o (by decide), st_o (by decide)]; exact a4.2.1 j hj, fun j hj => by rw [st_o (by decide), st_o (by decide)]; exact a4.2.2 j hj⟩, st_rd, ?_, ?_⟩
          · rw [b1, bnd_p]
            try dsimp only
            rw [if_pos z00, bns_p, u18, Int32.add_zero, sX7_load_12, if_pos rfl, bns_p]
            try dsimp only
            rw [st_o (show ¬ 17 = 16 by decide), st_o (show ¬ 17 = 18 by decide), a3.2.2]
          · rw [st_o (by decide), st_o (by decide), a3.2.2, rg, ii_t (by omega)]; omega
          · rw [st_o (by decide), st_rd, rg, ii_t (by omega)]; omega
      · have hz := b2.1
        have hT' : TP L t (st U 18 0 (ii (k + 1))) z := ⟨by rw [st_o (by decide)]; exact a3.1, by rw [st_o (by decide)]; exact a3.2.1, by rw [st_o (by decide)]; exact a3.2.2⟩
        have fS : FR (st U 18 0 (ii (k + 1))) u k := ⟨fun r a b c d e f => by rw [st_o f, a4.1 r a b c d e f], fun j hj => by rw [st_o (by decide), st_o (by decide)]; exact a4.2.1 j hj, fun j hj => by rw [st_o (by decide)]; exact a4.2.2 j hj⟩
        have eL : (bnd (sX7_statement u) fun rn_9 wn_9 => if rn_9 = 0 then bns (st wn_9 18 0 (wn_9 18 0 + 0)) fun wn_12 => sX7_load_12 F rn_9 wn_12 else bns (st wn_9 18 0 (wn_9 18 0 + 1)) fun wn_13 => sX7_load_12 F rn_9 wn_13) = sX7_load_12 F 1 (st U 18 0 (ii (k + 1))) := by
          rw [b1, bnd_p]
          try dsimp only
          rw [if_neg n10, bns_p, u18, ii_s]
        rw [eL]
        have hkeep : FR (st U 18 0 (ii (k + 1))) U (k + 1) := ⟨fun r a b c d e f => st_o f, fun j hj => ⟨by rw [st_o (by decide)], by rw [st_o (by decide)]⟩, fun j hj => by rw [st_o (by decide)]⟩
        rcases ih z (k + 1) f s (st U 18 0 (ii (k + 1))) hT' st_rd a2 (by omega) (fun q => by omega) (by omega) b3 b4 b5 with ⟨V, y, d1, d2, d3, d4, d5, d6, d7⟩ | ⟨V, K, d1, d2, d3, d4, d5, d6, d7, d8, d9⟩
        · left
          exact ⟨V, y, d1, d2, fun m hm => by rw [b6 m hm, d3 _ (by omega)], d4.tr fS (by omega), d5, d6, d7⟩
        · right
          refine ⟨V, K, d1, fun m hm => by rw [b6 m hm, d2 _ (by omega)], d3, by omega, d5, ?_, d7.tr fS (by omega), d8, d9⟩
          rw [show K - k = (K - (k + 1)) + 1 by omega]
          exact ⟨z, b2.keep (d7.tr hkeep (Nat.le_refl _)) (by omega), d6⟩
    · have e : p = t := by omega
      subst e
      right
      have hk1 : ¬ ii k = 0 := fun q => by have := (ii_0 (by omega)).mp q; have := hk0 this; omega
      rw [if_neg (fun q => c ((ii_lt (by omega) (by omega)).mp q)), if_neg hk1]
      simp only [bns]
      refine ⟨st u 16 0 0, k, rfl, fun m hm => ?_, by omega, Nat.le_refl _, by rw [st_o (by decide)]; exact h18, ?_, ⟨fun r _ _ _ d _ _ => st_o d, fun j hj => ⟨by rw [st_o (by decide)], by rw [st_o (by decide)]⟩, fun j hj => by rw [st_o (by decide)]⟩, st_rd, ?_⟩
      · cases m with
        | zero => omega
        | succ m => rw [r_start h ht hf0 hs0 hs7 (Nat.le_refl _) m, if_neg (by omega)]
      · rw [Nat.sub_self]; rfl
      · rw [st_o (by decide), hT.2.2, rg, ii_t (by omega)]; omega
