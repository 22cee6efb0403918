/-! one statement -/
theorem of_all : ∀ k, k < 256 → sX0_of (ii k) = sX7_layerOf (ii k) ∧ sX2_of (ii k) = sX7_pieceOf (ii k) := by decide +kernel
theorem of_eq {c : Int32} (h : rg c 0 255) : sX0_of c = sX7_layerOf c ∧ sX2_of c = sX7_pieceOf c := by
  obtain ⟨h1, h2⟩ := h
  rw [ii_of h1]
  exact of_all _ (by omega)
theorem ft48 {L : Nat → Int32} {t q : Nat} : ft L t 48 q = dg L t q := rfl
theorem ft59 {L : Nat → Int32} {t q : Nat} : ft L t 59 q = true ↔ q < t ∧ L q = 59 := by
  rw [ft_t]
  have e : sX1_fits 59 (L q) = if L q = 59 then 1 else 0 := by
    unfold sX1_fits
    rw [if_neg (by decide), if_neg (by decide), if_neg (by decide), if_neg (by decide), if_neg (by decide)]
  rw [e]
  by_cases c : L q = 59
  · rw [if_pos c]; simp [c]
  · rw [if_neg c]; simp [c]
theorem ft43 {L : Nat → Int32} {t q : Nat} : ft L t 43 q = true ↔ q < t ∧ (L q = 43 ∨ L q = 45) := by
  rw [ft_t]
  have e : sX1_fits 43 (L q) = if L q = 43 then 1 else if L q = 45 then 1 else 0 := by
    unfold sX1_fits
    rw [if_pos rfl]
  rw [e]
  by_cases c : L q = 43
  · rw [if_pos c]; simp [c]
  · rw [if_neg c]
    by_cases d : L q = 45
    · rw [if_pos d]; simp [d]
    · rw [if_neg d]; simp [c, d]
theorem ft76 {L : Nat → Int32} {t q : Nat} : ft L t 76 q = true ↔ q < t ∧ ¬ sX0_of (L q) < 0 := by
  rw [ft_t]
  have e : sX1_fits 76 (L q) = if sX0_of (L q) < 0 then 0 else 1 := by
    unfold sX1_fits
    rw [if_neg (by decide), if_neg (by decide), if_neg (by decide), if_pos rfl]
  rw [e]
  by_cases c : sX0_of (L q) < 0
  · rw [if_pos c]; simp [c]
  · rw [if_neg c]; simp [c]
theorem ft80 {L : Nat → Int32} {t q : Nat} : ft L t 80 q = true ↔ q < t ∧ ¬ sX2_of (L q) < 0 := by
  rw [ft_t]
  have e : sX1_fits 80 (L q) = if sX2_of (L q) < 0 then 0 else 1 := by
    unfold sX1_fits
    rw [if_neg (by decide), if_neg (by decide), if_neg (by decide), if_neg (by decide), if_pos rfl]
  rw [e]
  by_cases c : sX2_of (L q) < 0
  · rw [if_pos c]; simp [c]
  · rw [if_neg c]; simp [c]
theorem dg_59 {L : Nat → Int32} {t q : Nat} (h : dg L t q = true) : ¬ L q = 59 := fun e => by
  have := (dg_b h).2
  rw [e, q_59] at this
  omega
theorem nd_dig {L : Nat → Int32} {t : Nat} : ∀ m q j, q ≤ j → j < q + nd L t m q → dg L t j = true := by
  intro m
  induction m with
  | zero => intro q j h1 h2; rw [nd] at h2; omega
  | succ m ih =>
    intro q j h1 h2
    rw [nd] at h2
    split at h2
    · rename_i c
      by_cases e : j = q
      · subst e; exact c
      · exact ih (q + 1) j (by omega) (by omega)
    · omega
theorem nd_end {L : Nat → Int32} {t : Nat} : ∀ m q, nd L t m q < m → dg L t (q + nd L t m q) = false := by
  intro m
  induction m with
  | zero => intro q h; omega
  | succ m ih =>
    intro q h
    rw [nd] at h ⊢
    split
    · rename_i c
      rw [if_pos c] at h
      rw [show q + (nd L t m (q + 1) + 1) = q + 1 + nd L t m (q + 1) by omega]
      exact ih (q + 1) (by omega)
    · rename_i c
      exact Bool.eq_false_iff.mpr c
theorem r_s {L : Nat → Int32} {t : Nat} {v : Nat → Nat → Int32} (h : LV L t v) (ht : t ≤ 96) {f s q m : Nat} {sym : Int32} (hf : f < 9) (hs : s < lenS.getD f 0) (hq : q ≤ t) (hsym : sJ0_charAt_5068e f (ii s) = sym) (h63 : ¬ sym = 63) (hm : t - q < m) : sX1_firstOutOfForm_16 v m f (ii s) (ii q) = if ft L t sym q = true then sX1_firstOutOfForm_16 v (m - 1) f (ii (s + 1)) (ii (q + 1)) else ii q := by
  cases m with
  | zero => omega
  | succ m => exact r_step h ht hf hs hq hsym h63 m
theorem r_digs {L : Nat → Int32} {t : Nat} {v : Nat → Nat → Int32} (h : LV L t v) (ht : t ≤ 96) {f : Nat} (hf : f < 9) : ∀ n s q m, (∀ j, j < n → sJ0_charAt_5068e f (ii (s + j)) = 48) → s + n ≤ lenS.getD f 0 → q ≤ t → t - q < m → sX1_firstOutOfForm_16 v m f (ii s) (ii q) = if nd L t n q = n then sX1_firstOutOfForm_16 v (m - n) f (ii (s + n)) (ii (q + n)) else ii (q + nd L t n q) := by
  intro n
  induction n with
  | zero => intro s q m _ _ _ _; rw [nd, if_pos rfl]; rfl
  | succ n ih =>
    intro s q m hc hl hq hm
    have h48 : sJ0_charAt_5068e f (ii s) = 48 := hc 0 (by omega)
    rw [r_s h ht (sym := 48) hf (by omega) hq h48 (by decide) hm, ft48, nd]
    by_cases c : dg L t q = true
    · have := (dg_b c).1
      rw [if_pos c, if_pos c, ih (s + 1) (q + 1) (m - 1) (fun j hj => by rw [show s + 1 + j = s + (j + 1) by omega]; exact hc (j + 1) (by omega)) (by omega) (by omega) (by omega), show m - 1 - n = m - (n + 1) by omega, show s + 1 + n = s + (n + 1) by omega, show q + 1 + n = q + (n + 1) by omega, show q + 1 + nd L t n (q + 1) = q + (nd L t n (q + 1) + 1) by omega]
      by_cases e : nd L t n (q + 1) = n
      · rw [if_pos e, if_pos (by omega)]
      · rw [if_neg e, if_neg (by omega)]
    · rw [if_neg c, if_neg c, if_neg (by omega), Nat.add_zero]
theorem r_d1 {L : Nat → Int32} {t : Nat} {v : Nat → Nat → Int32} (h : LV L t v) (ht : t ≤ 96) {f s q m : Nat} (hf : f < 9) (hc : sJ0_charAt_5068e f (ii s) = 48) (hl : s + 1 ≤ lenS.getD f 0) (hq : q ≤ t) (hm : t - q < m) : sX1_firstOutOfForm_16 v m f (ii s) (ii q) = if nd L t 1 q = 1 then sX1_firstOutOfForm_16 v (m - 1) f (ii (s + 1)) (ii (q + 1)) else ii (q + nd L t 1 q) := r_digs h ht hf 1 s q m (fun j hj => by rw [show j = 0 by omega]; exact hc) hl hq hm
theorem r_d2 {L : Nat → Int32} {t : Nat} {v : Nat → Nat → Int32} (h : LV L t v) (ht : t ≤ 96) {f s q m : Nat} (hf : f < 9) (hc : sJ0_charAt_5068e f (ii s) = 48) (hc1 : sJ0_charAt_5068e f (ii (s + 1)) = 48) (hl : s + 2 ≤ lenS.getD f 0) (hq : q ≤ t) (hm : t - q < m) : sX1_firstOutOfForm_16 v m f (ii s) (ii q) = if nd L t 2 q = 2 then sX1_firstOutOfForm_16 v (m - 2) f (ii (s + 2)) (ii (q + 2)) else ii (q + nd L t 2 q) := r_digs h ht hf 2 s q m (fun j hj => by
  rcases (show j = 0 ∨ j = 1 by omega) with rfl | rfl
  · exact hc
  · exact hc1) hl hq hm
def DAT (L : Nat → Int32) (t : Nat) (U : Nat → Nat → Int32) (p k z : Nat) : Prop := (L p = 121 ∧ z = p + 7 ∧ U 15 (4 * k) = sX7_layerOf (L (p + 1)) ∧ 0 ≤ (sX7_layerOf (L (p + 1))).toInt ∧ U 15 (4 * k + 1) = nv L t 2 (p + 2) 0 ∧ U 15 (4 * k + 2) = nv L t 1 (p + 4) 0 ∧ (L (p + 5) = 43 ∨ L (p + 5) = 45) ∧ U 15 (4 * k + 3) = nv L t 1 (p + 6) 0 * (if L (p + 5) = 43 then 1 else -1)) ∨ (L p = 119 ∧ z = p + 6 ∧ U 15 (4 * k) = nv L t 1 (p + 1) 0 ∧ U 15 (4 * k + 1) = sX7_pieceOf (L (p + 2)) ∧ 0 ≤ (sX7_pieceOf (L (p + 2))).toInt ∧ U 15 (4 * k + 2) = nv L t 2 (p + 3) 0 ∧ U 15 (4 * k + 3) = nv L t 1 (p + 5) 0) ∨ (L p = 114 ∧ U 15 (4 * k) = nv L t 1 (p + 1) 0) ∨ (L p = 107 ∧ U 15 (4 * k) = nv L t 1 (p + 1) 0 ∧ U 15 (4 * k + 1) = nv L t 1 (p + 2) 0) ∨ (L p = 102 ∧ U 15 (4 * k) = nv L t 3 (p + 1) 0) ∨ L p = 117
def HRES (L : Nat → Int32) (t : Nat) (v u : Nat → Nat → Int32) (p k g : Nat) (c : Int32) : Prop := ∃ U z, p + 1 ≤ z ∧ z ≤ t ∧ TP L t U z ∧ (∀ r, r ≠ 15 → r ≠ 17 → U r = u r) ∧ (∀ j, j < 4 * k → U 15 j = u 15 j) ∧ ((sX7_readsAll u c (ii (4 * k)) = (0, U) ∧ ∀ m, t - (p + 1) < m → sX1_firstOutOfForm_16 v m g (ii 0) (ii (p + 1)) = ii z) ∨ (sX7_readsAll u c (ii (4 * k)) = (1, U) ∧ DAT L t U p k z ∧ (∀ j, p + 1 ≤ j → j < z → ¬ L j = 59) ∧ ∃ s, (∀ m, t - (p + 1) < m → sX1_firstOutOfForm_16 v m g (ii 0) (ii (p + 1)) = sX1_firstOutOfForm_16 v (m - (z - (p + 1))) g (ii s) (ii z)) ∧ ∀ m, t - z < m → sX1_firstOutOfForm_16 v m g (ii s) (ii z) = if ft L t 59 z = true then sX1_firstOutOfForm_16 v (m - 1) g (ii (lenS.getD g 0)) (ii (z + 1)) else ii z))
theorem nd1 {L : Nat → Int32} {t q : Nat} : nd L t 1 q = if dg L t q = true then 1 else 0 := by
  rw [nd]; rfl
theorem H_u {L : Nat → Int32} {t : Nat} {v u : Nat → Nat → Int32} (h : LV L t v) (ht : t ≤ 96) {p k : Nat} (hk : k < 48) (hp : p < t) (hT : TP L t u (p + 1)) (hc : L p = 117) : HRES L t v u p k 8 117 := by
  refine ⟨u, p + 1, Nat.le_refl _, hp, hT, fun _ _ _ => rfl, fun _ _ => rfl, Or.inr ⟨?_, Or.inr (Or.inr (Or.inr (Or.inr (Or.inr hc)))), fun j a b => by omega, 0, fun m _ => by rw [Nat.sub_self, Nat.sub_zero], fun m hm => ?_⟩⟩
  · unfold sX7_readsAll
    rw [if_neg (by decide), if_neg (by decide), if_neg (by decide), if_neg (by decide), if_neg (by decide)]
  · exact r_s h ht (by omega) (by decide) (by omega) (by decide) (by decide) hm
theorem H_r {L : Nat → Int32} {t : Nat} {v u : Nat → Nat → Int32} (h : LV L t v) (ht : t ≤ 96) {p k : Nat} (hk : k < 48) (hp : p < t) (hT : TP L t u (p + 1)) (hc : L p = 114) : HRES L t v u p k 5 114 := by
  obtain ⟨U, e, g1, g2, g3⟩ := RN ht (p := 4 * k) (least := 1) (most := 1) (by omega) (by omega) (by omega) hT (by omega)
  have hA : sX7_readsAll u 114 (ii (4 * k)) = ((if nd L t 1 (p + 1) < 1 then 0 else 1), U) := by
    unfold sX7_readsAll
    rw [if_neg (by decide), if_neg (by decide), if_pos rfl]
    exact e
  have hr := fun m => r_d1 h ht (f := 5) (s := 0) (q := (p + 1)) (m := m) (by omega) (by decide) (by decide) (by omega)
  have hz := nd_t L t 1 (p + 1) (by omega)
  have hle := nd_le L t 1 (p + 1)
  refine ⟨U, p + 1 + nd L t 1 (p + 1), by omega, hz, g2, g1, fun j hj => by rw [g3 j, if_neg (by omega)], ?_⟩
  by_cases c : nd L t 1 (p + 1) = 1
  · right
    rw [hA, if_neg (by omega)]
    refine ⟨rfl, Or.inr (Or.inr (Or.inl ⟨hc, by rw [g3, if_pos rfl]⟩)), fun j a b => dg_59 (nd_dig 1 (p + 1) j a b), 1, fun m hm => ?_, fun m hm => ?_⟩
    · rw [hr m hm, if_pos c, c, show p + 1 + 1 - (p + 1) = 1 by omega]
    · exact r_s h ht (by omega) (by decide) (by omega) (by decide) (by decide) hm
  · left
    rw [hA, if_pos (by omega)]
    exact ⟨rfl, fun m hm => by rw [hr m hm, if_neg c]⟩
theorem H_k {L : Nat → Int32} {t : Nat} {v u : Nat → Nat → Int32} (h : LV L t v) (ht : t ≤ 96) {p k : Nat} (hk : k < 48) (hp : p < t) (hT : TP L t u (p + 1)) (hc : L p = 107) : HRES L t v u p k 6 107 := by
  obtain ⟨U, e, g1, g2, g3⟩ := RN ht (p := 4 * k) (least := 1) (most := 1) (by omega) (by omega) (by omega) hT (by omega)
  have hle := nd_le L t 1 (p + 1)
  have hz := nd_t L t 1 (p + 1) (by omega)
  have hr := fun m => r_d1 h ht (f := 6) (s := 0) (q := (p + 1)) (m := m) (by omega) (by decide) (by decide) (by omega)
  have e' : sX7_readsNumber u (ii (4 * k)) 1 1 = _ := e
  by_cases c : nd L t 1 (p + 1) = 1
  · rw [c] at g2 hz
    obtain ⟨V, f, k1, k2, k3⟩ := RN ht (p := 4 * k + 1) (least := 1) (most := 1) (by omega) (by omega) (by omega) g2 (by omega)
    have f' : sX7_readsNumber U (ii (4 * k) + 1) 1 1 = ((if nd L t 1 (p + 1 + 1) < 1 then 0 else 1), V) := by
      rw [ii_s]
      exact f
    have hle2 := nd_le L t 1 (p + 1 + 1)
    have hz2 := nd_t L t 1 (p + 1 + 1) (by omega)
    have hr2 := fun m => r_d1 h ht (f := 6) (s := 1) (q := (p + 1 + 1)) (m := m) (by omega) (by decide) (by decide) (by omega)
    have hA : sX7_readsAll u 107 (ii (4 * k)) = (if nd L t 1 (p + 1 + 1) < 1 then (0, V) else (1, V)) := by
      unfold sX7_readsAll
      rw [if_neg (by decide), if_pos rfl, e']
      simp only [bnd]
      rw [if_neg (show ¬ (if nd L t 1 (p + 1) < 1 then (0 : Int32) else 1) = 0 by rw [if_neg (by omega)]; decide), f']
      by_cases d : nd L t 1 (p + 1 + 1) < 1
      · simp only [if_pos d]; rfl
      · simp only [if_neg d]; rfl
    refine ⟨V, p + 1 + 1 + nd L t 1 (p + 1 + 1), by omega, hz2, k2, fun r a b => by rw [k1 r a b, g1 r a b], fun j hj => by rw [k3 j, if_neg (by omega), g3 j, if_neg (by omega)], ?_⟩
    by_cases d : nd L t 1 (p + 1 + 1) = 1
    · right
      rw [hA, if_neg (by omega)]
      refine ⟨rfl, Or.inr (Or.inr (Or.inr (Or.inl ⟨hc, by rw [k3, if_neg (by omega), g3, if_pos rfl], by rw [k3, if_pos rfl]⟩))), fun j a b => ?_, 2, fun m hm => ?_, fun m hm => ?_⟩
      · by_cases q : j = p + 1
        · subst q; exact dg_59 (t := t) (nd_dig 1 (p + 1) (p + 1) (by omega) (by omega))
        · exact dg_59 (nd_dig 1 (p + 1 + 1) j (by omega) b)
      · rw [hr m hm, if_pos c, hr2 (m - 1) (by omega), if_pos d, d, show p + 1 + 1 + 1 - (p + 1) = 2 by omega, show m - 1 - 1 = m - 2 by omega]
      · exact r_s h ht (by omega) (by decide) (by omega) (by decide) (by decide) hm
    · left
      rw [hA, if_pos (by omega)]
      exact ⟨rfl, fun m hm => by rw [hr m hm, if_pos c, hr2 (m - 1) (by omega), if_neg d]⟩
  · have hA : sX7_readsAll u 107 (ii (4 * k)) = (0, U) := by
      unfold sX7_readsAll
      rw [if_neg (by decide), if_pos rfl, e']
      simp only [bnd]
      rw [if_pos (show (if nd L t 1 (p + 1) < 1 then (0 : Int32) else 1) = 0 by rw [if_pos (by omega)])]
    refine ⟨U, p + 1 + nd L t 1 (p + 1), by omega, hz, g2, g1, fun j hj => by rw [g3 j, if_neg (by omega)], Or.inl ⟨hA, fun m hm => by rw [hr m hm, if_neg c]⟩⟩
theorem H_f {L : Nat → Int32} {t : Nat} {v u : Nat → Nat → Int32} (h : LV L t v) (ht : t ≤ 96) {p k : Nat} (hk : k < 48) (hp : p < t) (hT : TP L t u (p + 1)) (hc : L p = 102) : HRES L t v u p k 7 102 := by
  obtain ⟨U, e, g1, g2, g3⟩ := RN ht (p := 4 * k) (least := 1) (most := 3) (by omega) (by omega) (by omega) hT (by omega)
  have hA : sX7_readsAll u 102 (ii (4 * k)) = ((if nd L t 3 (p + 1) < 1 then 0 else 1), U) := by
    unfold sX7_readsAll
    rw [if_pos rfl]
    exact e
  have hz := nd_t L t 3 (p + 1) (by omega)
  have h0 : ∀ m, t - (p + 1) < m → sX1_firstOutOfForm_16 v m 7 (ii 0) (ii (p + 1)) = if dg L t (p + 1) = true then sX1_firstOutOfForm_16 v (m - 1) 7 (ii 1) (ii (p + 1 + 1)) else ii (p + 1) := fun m hm => by
    rw [r_s h ht (sym := 48) (by omega) (by decide) (by omega) (by decide) (by decide) hm, ft48]
  have h1 : ∀ s q m, (s = 1 ∨ s = 2) → q ≤ t → t - q < m → sX1_firstOutOfForm_16 v m 7 (ii s) (ii q) = if dg L t q = true then sX1_firstOutOfForm_16 v (m - 1) 7 (ii (s + 1)) (ii (q + 1)) else if ft L t 59 q = true then sX1_firstOutOfForm_16 v (m - 1) 7 (ii 4) (ii (q + 1)) else ii q := fun s q m hs hq hm => by
    cases m with
    | zero => omega
    | succ m => exact r7_1 h ht hs hq m
  have h3 : ∀ q m, q ≤ t → t - q < m → sX1_firstOutOfForm_16 v m 7 (ii 3) (ii q) = if ft L t 59 q = true then sX1_firstOutOfForm_16 v (m - 1) 7 (ii 4) (ii (q + 1)) else ii q := fun q m hq hm => r_s h ht (by omega) (by decide) hq (by decide) (by decide) hm
  have e4 : lenS.getD 7 0 = 4 := rfl
  refine ⟨U, p + 1 + nd L t 3 (p + 1), by omega, hz, g2, g1, fun j hj => by rw [g3 j, if_neg (by omega)], ?_⟩
  have n3 : nd L t 3 (p + 1) = if dg L t (p + 1) = true then (if dg L t (p + 1 + 1) = true then (if dg L t (p + 1 + 1 + 1) = true then 1 else 0) + 1 else 0) + 1 else 0 := by
    rw [nd, nd, nd1]
  by_cases c1 : dg L t (p + 1) = true
  · right
    rw [if_pos c1] at n3
    rw [hA, if_neg (by omega)]
    have b1 := (dg_b c1).1
    refine ⟨rfl, Or.inr (Or.inr (Or.inr (Or.inr (Or.inl ⟨hc, by rw [g3, if_pos rfl]⟩)))), fun j a b => dg_59 (nd_dig 3 (p + 1) j a b), nd L t 3 (p + 1), ?_⟩
    by_cases c2 : dg L t (p + 1 + 1) = true
    · rw [if_pos c2] at n3
      have b2 := (dg_b c2).1
      by_cases c3 : dg L t (p + 1 + 1 + 1) = true
      · rw [if_pos c3] at n3
        have b3 := (dg_b c3).1
        have n3' : nd L t 3 (p + 1) = 3 := n3
        rw [n3', e4]
        exact ⟨fun m hm => by rw [h0 m hm, if_pos c1, h1 1 _ (m - 1) (Or.inl rfl) (by omega) (by omega), if_pos c2, h1 2 _ (m - 1 - 1) (Or.inr rfl) (by omega) (by omega), if_pos c3, show p + 1 + 3 - (p + 1) = 3 by omega, show m - 1 - 1 - 1 = m - 3 by omega], fun m hm => h3 _ m (by omega) hm⟩
      · rw [if_neg c3] at n3
        have n3' : nd L t 3 (p + 1) = 2 := n3
        rw [n3', e4]
        exact ⟨fun m hm => by rw [h0 m hm, if_pos c1, h1 1 _ (m - 1) (Or.inl rfl) (by omega) (by omega), if_pos c2, show p + 1 + 2 - (p + 1) = 2 by omega, show m - 1 - 1 = m - 2 by omega], fun m hm => by rw [h1 2 _ m (Or.inr rfl) (by omega) hm, if_neg c3]⟩
    · rw [if_neg c2] at n3
      have n3' : nd L t 3 (p + 1) = 1 := n3
      rw [n3', e4]
      exact ⟨fun m hm => by rw [h0 m hm, if_pos c1, show p + 1 + 1 - (p + 1) = 1 by omega], fun m hm => by rw [h1 1 _ m (Or.inl rfl) (by omega) hm, if_neg c2]⟩
  · left
    rw [if_neg c1] at n3
    rw [hA, if_pos (by omega), n3]
    exact ⟨rfl, fun m hm => by rw [h0 m hm, if_neg c1, Nat.add_zero]⟩
