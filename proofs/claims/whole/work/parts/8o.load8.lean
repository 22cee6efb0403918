theorem P2 {L : Nat → Int32} {t : Nat} {v B : Nat → Nat → Int32} {W : Nat → Nat → Nat → Int32} (h : LV L t v) (ht : t ≤ 96) (hL : ∀ j, j < t → rg (L j) 0 255) (hW3 : W 3 = v) {K : Nat} (hK : K ≤ 48) (hB6 : ∀ j, j < 12 → B 6 j = 0) : ∀ (d k p n F m : Nat) (c : Nat → Nat) (V : Nat → Nat → Nat → Int32) (U : Nat → Nat → Int32), k + d = K → CH L t U d k p → p ≤ t → d < F → t - p < m → T1 V W → WR n c (V 1) U → n ≤ 11 → U 18 0 = ii K → FM U (sX7_passesAll B 1 1) → (∃ z V' U', z ≤ 96 ∧ sX6_readStatements_17 m (ii k) (ii p) (ii p) V = (-2000 - ii z, V') ∧ T1 V' W ∧ sX7_load_86 F (ii k) U = (-2000 - ii z, U') ∧ SQ U' B) ∨ (∃ V' U' n' c', sX6_readStatements_17 m (ii k) (ii p) (ii p) V = (ii K, sc V' 0 (sX4_become (V' 0) (V' 1))) ∧ T1 V' W ∧ sX7_load_86 F (ii k) U = (ii K, U') ∧ n' ≤ 11 ∧ WR n' c' (V' 1) U' ∧ FM U' (sX7_passesAll B 1 1)) := by
  have hk : ∀ q, q ≠ 19 → q ≠ 21 → q ≠ 22 → sX7_passesAll B 1 1 q = B q := fun q a b d => iX7_save q a b d
  intro d
  induction d with
  | zero =>
    intro k p n F m c V U hkK hC hp hF hm hT hW hn h18 hM
    have e : p = t := hC
    have e2 : k = K := by omega
    subst e
    subst e2
    right
    cases F with
    | zero => omega
    | succ F =>
      cases m with
      | zero => omega
      | succ m =>
        refine ⟨V, U, n, c, ?_, hT, ?_, hn, hW, hM⟩
        · rw [sX6_readStatements_17, hT 3 (by decide), hW3, h.1, ifle (by omega) (by omega), if_pos (Nat.le_refl _)]
          rfl
        · rw [sX7_load_86, h18, if_pos (Int32.le_refl _)]
  | succ d ih =>
    intro k p n F m c V U hkK hC hp hF hm hT hW hn h18 hM
    obtain ⟨z, hS, hC2⟩ := hC
    obtain ⟨s1, s2, s3, s4, s5, s6, s7⟩ := id hS
    have h60 : ∀ j, j < 12 → U 6 j = 0 := fun j hj => by rw [hM.2.2.2, hk 6 (by decide) (by decide) (by decide)]; exact hB6 j hj
    have hV3 : V 3 = v := by rw [hT 3 (by decide), hW3]
    obtain ⟨r, U', V', a1, a2, a3, a4, a5⟩ := CM hV3 h ht hL (by omega) hS hW hn h60
    have hT' : T1 V' W := fun q hq => by rw [a3 q hq, hT q hq]
    have hM' := a4.tr hM
    have hscan := SCAN hV3 h ht (z := z - 1) (by omega) (ii k) (ii p) (z - 1 - p) p m (by omega) (fun j a b => s6 j a (by omega)) (by omega)
    obtain ⟨m', hm'⟩ : ∃ m', m - (z - 1 - p) = m' + 1 := ⟨m - (z - 1 - p) - 1, by omega⟩
    have eC : sX6_readStatements_17 m (ii k) (ii p) (ii p) V = if r = 0 then (-2000 - ii p, V') else sX6_readStatements_17 m' (ii (k + 1)) (ii z) (ii z) V' := by
      rw [hscan, hm', sX6_readStatements_17, hV3, h.1, ifle (by omega) (by omega), if_neg (show ¬ t ≤ z - 1 by omega), e_at h ht (by omega), if_pos (show z - 1 < t by omega), if_pos s7, a2, bnd_p]
      try dsimp only
      rw [ii_s, ii_s, show z - 1 + 1 = z by omega]
    cases F with
    | zero => omega
    | succ F =>
      have eM : sX7_load_86 (F + 1) (ii k) U = if r = 0 then (-2000 - ii p, sX7_passesAll U' 1 0) else sX7_load_86 F (ii (k + 1)) U' := by
        rw [sX7_load_86, h18, ifle (by omega) (by omega), if_neg (show ¬ K ≤ k by omega), a1, bnd_p]
        try dsimp only
        rw [ii_s, bns_p]
        have e14 : sX7_passesAll U' 1 0 14 k = ii p := by
          obtain ⟨p1, -⟩ := pa_rest U' 1 (by omega)
          have e0 : sX7_passesAll U' (ii 1) 0 = sX7_passesAll U' 1 0 := rfl
          rw [e0] at p1
          rw [p1 14 (by omega) (by decide) (by decide), a4.1 14 (by omega)]
          exact s3
        have xk : (ii k).toNatClampNeg = k := ii_n (by omega)
        simp only [xk, e14]
      rcases a5 with rfl | ⟨rfl, n', c', b1, b2⟩
      · left
        rw [if_pos z00] at eC eM
        refine ⟨p, V', sX7_passesAll U' 1 0, by omega, eC, hT', eM, ?_⟩
        exact e_back1 (hM'.1 19 (by omega)) (fun q a b j hj => by
          rw [hM'.2.1 q a b j hj, hk q (by omega) (by omega) (by omega)]) (fun j hj => by rw [hM'.2.2.1 j hj, hk 11 (by decide) (by decide) (by decide)]) (fun q a b e f _ _ _ => by rw [hM'.1 q a, hk q b e f])
      · rw [if_neg n10] at eC eM
        rw [eC, eM]
        exact ih (k + 1) z n' F m' c' V' U' (by omega) (CH.same (a4.1 13 (by omega)) (a4.1 14 (by omega)) (a4.1 15 (by omega)) d (k + 1) z hC2) s2 (by omega) (by omega) hT' b2 b1 (by rw [a4.1 18 (by omega)]; exact h18) hM'
theorem LT0 {V : Nat → Nat → Nat → Int32} {u : Nat → Nat → Int32} (h1 : V 3 1 0 = 0) (h2 : u 16 0 = 0) : LT V u := ⟨0, by omega, h1, h2, fun j hj => by omega⟩
