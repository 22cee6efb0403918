/-! a statement comes -/
def FM (V U : Nat → Nat → Int32) : Prop := (∀ q, (q = 0 ∨ 12 ≤ q) → V q = U q) ∧ (∀ q, 1 ≤ q → q ≤ 10 → ∀ j, lnr q ≤ j → V q j = U q j) ∧ (∀ j, j ≠ 0 → V 11 j = U 11 j) ∧ V 6 = U 6
theorem FM.rf (U : Nat → Nat → Int32) : FM U U := ⟨fun _ _ => rfl, fun _ _ _ _ _ => rfl, fun _ _ => rfl, rfl⟩
theorem FM.tr {X V U : Nat → Nat → Int32} (h : FM X V) (g : FM V U) : FM X U := ⟨fun q a => by rw [h.1 q a, g.1 q a], fun q a b j d => by rw [h.2.1 q a b j d, g.2.1 q a b j d], fun j a => by rw [h.2.2.1 j a, g.2.2.1 j a], by rw [h.2.2.2, g.2.2.2]⟩
theorem FM.put {U : Nat → Nat → Int32} {r j : Nat} {x : Int32} (h1 : 1 ≤ r) (h2 : r ≤ 10) (h6 : r ≠ 6) (hj : j < lnr r) : FM (st U r j x) U := ⟨fun q a => st_o (by omega), fun q a b i d => by
  by_cases e : q = r
  · subst e; rw [st_s]; unfold upd; rw [if_neg (by omega)]
  · rw [st_o e], fun i _ => by rw [st_o (by omega)], st_o (fun e => h6 e.symm)⟩
theorem FM.put11 {U : Nat → Nat → Int32} {x : Int32} : FM (st U 11 0 x) U := ⟨fun q a => st_o (by omega), fun q a b i d => by rw [st_o (by omega)], fun i hi => by rw [st_s]; unfold upd; rw [if_neg hi], st_o (by decide)⟩
def CRES (t : Nat) (v U : Nat → Nat → Int32) (V : Nat → Nat → Nat → Int32) (p k : Nat) : Prop := ∃ r U' V', sX7_comes U (ii k) = (r, U') ∧ sX6_readStatement V (ii p) = (r, V') ∧ T1 V' V ∧ FM U' U ∧ (r = 0 ∨ (r = 1 ∧ ∃ n c, n ≤ 11 ∧ WR n c (V' 1) U'))
theorem e_turn (a : Nat → Nat → Int32) (k : Nat) (hk : k < 4) (x : Int32) : sX4_turn a (ii k) x = if x < leastS k then (0, a) else if x ≤ mostS k then (1, st a 7 k x) else (0, a) := by
  unfold sX4_turn
  rw [ii_n (by omega)]
  rfl
theorem sc_same (V : Nat → Nat → Nat → Int32) (k : Nat) : sc V k (V k) = V := by
  funext q
  by_cases e : q = k
  · subst e; exact sc_s
  · exact sc_o e
theorem C_r {L : Nat → Int32} {t : Nat} {v U : Nat → Nat → Int32} {V : Nat → Nat → Nat → Int32} (hV : V 3 = v) (h : LV L t v) (ht : t ≤ 96) {p k n : Nat} {c : Nat → Nat} (hk : k < 48) (hp : p + 2 ≤ t) (hW : WR n c (V 1) U) (hn : n ≤ 11) (h13 : U 13 k = L p) (hc : L p = 114) (hd : U 15 (4 * k) = nv L t 1 (p + 1) 0) : CRES t v U V p k := by
  obtain ⟨l0, -, -, -, m0, -⟩ := ls_all
  have hb := nv1_b L t (p + 1) rg00 (by omega) (by omega)
  have e4 : (4 : Int32) * ii k = ii (4 * k) := ii_m 4 k
  have eM : sX7_comes U (ii k) = if 5 < nv L t 1 (p + 1) 0 then (0, st U 1 0 (nv L t 1 (p + 1) 0)) else (1, st U 1 0 (nv L t 1 (p + 1) 0)) := by
    unfold sX7_comes
    rw [ii_n (by omega), h13, hc, if_neg (by decide), if_neg (by decide), if_pos rfl, e4, ii_n (by omega), hd]
    simp only [bns]
    rw [st_o (by decide), hd]
  have eT : ∀ a x, sX4_turn a 0 x = if x < leastS 0 then (0, a) else if x ≤ mostS 0 then (1, st a 7 0 x) else (0, a) := fun a x => e_turn a 0 (by omega) x
  have eC : sX6_readStatement V (ii p) = if 5 < nv L t 1 (p + 1) 0 then (0, V) else (1, sc V 1 (st (V 1) 7 0 (nv L t 1 (p + 1) 0))) := by
    unfold sX6_readStatement
    rw [hV, e_at h ht (by omega), if_pos (show p < t by omega), hc, if_neg (by decide), if_neg (by decide), if_pos rfl, ii_s, e_digit h ht (by omega), eT, l0, m0]
    simp only [bnd, bns]
    rw [if_neg (fun q => by have := i_lt q; rw [q_0] at this; have := hb.1; omega)]
    by_cases d : 5 < nv L t 1 (p + 1) 0
    · have := i_lt d
      rw [if_neg (fun q => by have := i_le q; omega), if_pos d, sc_same]
    · rw [if_pos (Int32.not_lt.mp d), if_neg d]
  have f1 : FM (st U 1 0 (nv L t 1 (p + 1) 0)) U := FM.put (by omega) (by omega) (by omega) (by decide)
  by_cases d : 5 < nv L t 1 (p + 1) 0
  · rw [if_pos d] at eM eC
    exact ⟨0, _, V, eM, eC, T1.rf V, f1, Or.inl rfl⟩
  · have d1 := i_nlt d
    rw [q_5] at d1
    rw [if_neg d] at eM eC
    refine ⟨1, _, _, eM, eC, (T1.rf V).sc _, f1, Or.inr ⟨rfl, n, c, hn, ?_⟩⟩
    rw [sc_s]
    exact hW.set (by omega) (fun _ => ⟨hb.1, by omega⟩) (fun q => by omega) (fun q => by omega) (fun q => by omega)
theorem C_f {L : Nat → Int32} {t : Nat} {v U : Nat → Nat → Int32} {V : Nat → Nat → Nat → Int32} (hV : V 3 = v) (h : LV L t v) (ht : t ≤ 96) {p k n : Nat} {c : Nat → Nat} (hk : k < 48) (hp : p + 2 ≤ t) (hW : WR n c (V 1) U) (hn : n ≤ 11) (h13 : U 13 k = L p) (hc : L p = 102) (hd : U 15 (4 * k) = nv L t 3 (p + 1) 0) : CRES t v U V p k := by
  obtain ⟨-, -, -, l3, -, -, -, m3⟩ := ls_all
  have hb := nv3_b L t (p + 1)
  have e4 : (4 : Int32) * ii k = ii (4 * k) := ii_m 4 k
  have eM : sX7_comes U (ii k) = (1, st U 1 3 (nv L t 3 (p + 1) 0)) := by
    unfold sX7_comes
    rw [ii_n (by omega), h13, hc, if_pos rfl, e4, ii_n (by omega), hd]
    rfl
  have eT : ∀ a x, sX4_turn a 3 x = if x < leastS 3 then (0, a) else if x ≤ mostS 3 then (1, st a 7 3 x) else (0, a) := fun a x => e_turn a 3 (by omega) x
  have eN : sX1_number v (ii (p + 1)) 3 = nv L t 3 (p + 1) 0 := e_number h ht (q := p + 1) (most := 3) (by omega) (by omega)
  have eC : sX6_readStatement V (ii p) = (1, sc V 1 (st (V 1) 7 3 (nv L t 3 (p + 1) 0))) := by
    unfold sX6_readStatement
    rw [hV, e_at h ht (by omega), if_pos (show p < t by omega), hc, if_pos rfl, ii_s, eN, eT, l3, m3, if_neg (fun q => by have := i_lt q; rw [q_0] at this; have := hb.1; omega), if_pos (Int32.le_iff_toInt_le.mpr (by rw [q_999]; exact hb.2))]
    rfl
  refine ⟨1, _, _, eM, eC, (T1.rf V).sc _, FM.put (by omega) (by omega) (by omega) (by decide), Or.inr ⟨rfl, n, c, hn, ?_⟩⟩
  rw [sc_s]
  exact hW.set (by omega) (fun q => by omega) (fun q => by omega) (fun q => by omega) (fun _ => hb)
theorem C_k {L : Nat → Int32} {t : Nat} {v U : Nat → Nat → Int32} {V : Nat → Nat → Nat → Int32} (hV : V 3 = v) (h : LV L t v) (ht : t ≤ 96) {p k n : Nat} {c : Nat → Nat} (hk : k < 48) (hp : p + 2 ≤ t) (hW : WR n c (V 1) U) (hn : n ≤ 11) (h13 : U 13 k = L p) (hc : L p = 107) (hd : U 15 (4 * k) = nv L t 1 (p + 1) 0) (hd1 : U 15 (4 * k + 1) = nv L t 1 (p + 2) 0) : CRES t v U V p k := by
  obtain ⟨-, l1, l2, -, -, mm1, mm2, -⟩ := ls_all
  have hb := nv1_b L t (p + 1) rg00 (by omega) (by omega)
  have hb2 := nv1_b L t (p + 2) rg00 (by omega) (by omega)
  have e4 : (4 : Int32) * ii k = ii (4 * k) := ii_m 4 k
  obtain ⟨x, hx⟩ : ∃ x, x = nv L t 1 (p + 1) 0 := ⟨_, rfl⟩
  obtain ⟨y, hy⟩ : ∃ y, y = nv L t 1 (p + 2) 0 := ⟨_, rfl⟩
  rw [← hx] at hd hb
  rw [← hy] at hd1 hb2
  obtain ⟨x1, x2⟩ := hb
  obtain ⟨y1, y2⟩ := hb2
  have eM : sX7_comes U (ii k) = if x ≤ 0 then (0, st (st U 1 1 x) 1 2 y) else if y ≤ 0 then (0, st (st U 1 1 x) 1 2 y) else (1, st (st U 1 1 x) 1 2 y) := by
    unfold sX7_comes
    rw [ii_n (by omega), h13, hc, if_neg (by decide), if_pos rfl, e4, ii_s, ii_n (by omega), ii_n (by omega), hd]
    simp only [bns]
    simp only [st_o (show ¬ 15 = 1 by decide), hd, hd1]
  have f1 : FM (st (st U 1 1 x) 1 2 y) U := (FM.put (by omega) (by omega) (by omega) (by decide)).tr (FM.put (by omega) (by omega) (by omega) (by decide))
  have eD : sX1_digit v (ii p + 1) = x := by rw [ii_s, e_digit h ht (by omega), hx]
  have eD2 : sX1_digit v (ii p + 2) = y := by rw [ii_s2, e_digit h ht (by omega), hy]
  have eT1 : sX4_turn (V 1) 1 x = if x ≤ 0 then (0, V 1) else (1, st (V 1) 7 1 x) := by
    have eT : sX4_turn (V 1) 1 x = if x < leastS 1 then (0, V 1) else if x ≤ mostS 1 then (1, st (V 1) 7 1 x) else (0, V 1) := e_turn (V 1) 1 (by omega) x
    rw [eT, l1, mm1]
    by_cases d : x ≤ 0
    · have := i_le d
      rw [q_0] at this
      rw [if_pos d, if_pos (Int32.lt_iff_toInt_lt.mpr (by rw [q_1]; omega))]
    · have := i_nle d
      rw [q_0] at this
      rw [if_neg d, if_neg (fun q => by have := i_lt q; rw [q_1] at this; omega), if_pos (Int32.le_iff_toInt_le.mpr (by rw [q_9]; omega))]
  have eT2 : ∀ a, sX4_turn a 2 y = if y ≤ 0 then (0, a) else (1, st a 7 2 y) := fun a => by
    have eT : sX4_turn a 2 y = if y < leastS 2 then (0, a) else if y ≤ mostS 2 then (1, st a 7 2 y) else (0, a) := e_turn a 2 (by omega) y
    rw [eT, l2, mm2]
    by_cases d : y ≤ 0
    · have := i_le d
      rw [q_0] at this
      rw [if_pos d, if_pos (Int32.lt_iff_toInt_lt.mpr (by rw [q_1]; omega))]
    · have := i_nle d
      rw [q_0] at this
      rw [if_neg d, if_neg (fun q => by have := i_lt q; rw [q_1] at this; omega), if_pos (Int32.le_iff_toInt_le.mpr (by rw [q_9]; omega))]
  by_cases d : x ≤ 0
  · rw [if_pos d] at eM eT1
    refine ⟨0, _, V, eM, ?_, T1.rf V, f1, Or.inl rfl⟩
    unfold sX6_readStatement
    rw [hV, e_at h ht (by omega), if_pos (show p < t by omega), hc, if_neg (by decide), if_pos rfl, eD, eT1, bnd_p, bns_p, sc_same]
    exact if_pos rfl
  · rw [if_neg d] at eM eT1
    have dx := i_nle d
    rw [q_0] at dx
    have eC : sX6_readStatement V (ii p) = bnd (sX4_turn (st (V 1) 7 1 x) 2 y) (fun rn_10 un_10 => bns (sc (sc V 1 (st (V 1) 7 1 x)) 1 un_10) (fun wn_10 => (if rn_10 = 0 then (0, wn_10) else (1, wn_10)))) := by
      unfold sX6_readStatement
      rw [hV, e_at h ht (by omega), if_pos (show p < t by omega), hc, if_neg (by decide), if_pos rfl, eD, eT1, bnd_p, bns_p]
      try dsimp only
      rw [if_neg n10, sc_s, sc_o (show ¬ 3 = 1 by decide), hV, eD2]
    by_cases e : y ≤ 0
    · rw [if_pos e] at eM
      refine ⟨0, _, sc (sc V 1 (st (V 1) 7 1 x)) 1 (st (V 1) 7 1 x), eM, ?_, ((T1.rf V).sc _).sc _, f1, Or.inl rfl⟩
      rw [eC, eT2, if_pos e, bnd_p, bns_p]
      exact if_pos rfl
    · rw [if_neg e] at eM
      have dy := i_nle e
      rw [q_0] at dy
      refine ⟨1, _, sc (sc V 1 (st (V 1) 7 1 x)) 1 (st (st (V 1) 7 1 x) 7 2 y), eM, ?_, ((T1.rf V).sc _).sc _, f1, Or.inr ⟨rfl, n, c, hn, ?_⟩⟩
      · rw [eC, eT2, if_neg e, bnd_p, bns_p]
        exact if_neg n10
      · rw [sc_s]
        exact (hW.set (k := 1) (v := x) (by omega) (fun q => by omega) (fun _ => ⟨by omega, by omega⟩) (fun q => by omega) (fun q => by omega)).set (k := 2) (by omega) (fun q => by omega) (fun q => by omega) (fun _ => ⟨by omega, by omega⟩) (fun q => by omega)
theorem C_u {L : Nat → Int32} {t : Nat} {v U : Nat → Nat → Int32} {V : Nat → Nat → Nat → Int32} (hV : V 3 = v) (h : LV L t v) (ht : t ≤ 96) {p k n : Nat} {c : Nat → Nat} (hk : k < 48) (hp : p + 2 ≤ t) (hW : WR n c (V 1) U) (hn : n ≤ 11) (h13 : U 13 k = L p) (hc : L p = 117) : CRES t v U V p k := by
  have eC : sX6_readStatement V (ii p) = bnd (sX4_takeTop (V 1)) (fun rn_16 un_16 => bns (sc V 1 un_16) (fun wn_16 => (rn_16, wn_16))) := by
    unfold sX6_readStatement
    rw [hV, e_at h ht (by omega), if_pos (show p < t by omega), hc, if_neg (by decide), if_neg (by decide), if_neg (by decide), if_pos rfl]
  have eM : sX7_comes U (ii k) = if ii n = 0 then (0, U) else (1, st U 11 0 (ii n - 1)) := by
    unfold sX7_comes
    rw [ii_n (by omega), h13, hc, if_neg (by decide), if_neg (by decide), if_neg (by decide), if_neg (by decide), if_neg (by decide), hW.w11]
    rfl
  by_cases d : n = 0
  · subst d
    rw [if_pos (by rfl)] at eM
    refine ⟨0, U, V, eM, ?_, T1.rf V, FM.rf U, Or.inl rfl⟩
    rw [eC, e_take0 hW.a6, bnd_p, bns_p, sc_same]
  · rw [if_neg (fun q => d ((ii_0 (by omega)).mp q)), show ii n - 1 = ii (n - 1) from ii_b (j := 1) (by omega)] at eM
    obtain ⟨t1, t2⟩ := hW.takeTop (u := st U 11 0 (ii (n - 1))) (by omega) (fun q a b => st_o (by omega)) st_rd
    refine ⟨1, _, sc V 1 (sX4_takeTop (V 1)).2, eM, ?_, (T1.rf V).sc _, FM.put11, Or.inr ⟨rfl, n - 1, c, by omega, ?_⟩⟩
    · rw [eC]
      simp only [bnd, bns]
      rw [t1]
    · rw [sc_s]; exact t2
