def sX7_isIn (a1 : Int32) (a2 : Int32) (a3 : Int32) : Int32 :=
  (if a1 < a2 then
  0
  else
  (if a3 < a1 then
  0
  else
  1))
def sX7_bound (a1 : Int32) (a2 : Int32) (a3 : Int32) : Int32 :=
  (if a2 ≤ a1 then
  (if a1 ≤ a3 then
  0
  else
  (-6))
  else
  (-4))
def sX7_layerOf (a1 : Int32) : Int32 :=
  (if a1 = 98 then
  1
  else
  (if a1 = 104 then
  4
  else
  (if a1 = 108 then
  0
  else
  (if a1 = 109 then
  6
  else
  (if a1 = 111 then
  2
  else
  (if a1 = 116 then
  5
  else
  (if a1 = 119 then
  3
  else
  (-1))))))))
def sX7_pieceOf (a1 : Int32) : Int32 :=
  (if a1 = 98 then
  3
  else
  (if a1 = 100 then
  1
  else
  (if a1 = 103 then
  5
  else
  (if a1 = 106 then
  2
  else
  (if a1 = 114 then
  4
  else
  (if a1 = 115 then
  0
  else
  (-1)))))))
def sX7_atLeast0 (a1 : Int32) : Int32 :=
  (if 0 ≤ a1 then
  a1
  else
  0)
def sX7_mostOf (a1 : Int32) : Int32 :=
  (if a1 = 0 then
  5
  else
  (if a1 = 3 then
  999
  else
  9))
def sX7_heldLean (a1 : Int32) : Int32 :=
  (if (-5) ≤ a1 then
  (if a1 ≤ 5 then
  a1
  else
  5)
  else
  (-5))
def sX7_isWay (a1 : Int32) : Int32 :=
  (if a1 = 0 then
  1
  else
  (if a1 = 1 then
  1
  else
  0))
def sX7_isLayer (w : Nat → Nat → Int32) (a1 : Int32) : Int32 :=
  (if a1 < 0 then
  0
  else
  (if (w 11 0) ≤ a1 then
  0
  else
  1))
def sX7_isPiece (w : Nat → Nat → Int32) (a1 : Int32) (a2 : Int32) : Int32 :=
  (if (sX7_isWay a1) = 0 then
  0
  else
  (if a2 < 0 then
  0
  else
  (if (w 10 (a1.toNatClampNeg)) ≤ a2 then
  0
  else
  1)))
def sX7_next (w : Nat → Nat → Int32) : Int32 :=
  (if (w 16 0) ≤ (w 17 0) then
  (-1)
  else
  w 12 ((w 17 0).toNatClampNeg))
def sX7_weightOf (w : Nat → Nat → Int32) (a1 : Int32) : Int32 :=
  (if (w 2 (a1.toNatClampNeg)) = 3 then
  (if (w 2 (a1.toNatClampNeg)) = 5 then
  (14 * (w 3 (a1.toNatClampNeg))) + 60
  else
  (14 * (w 3 (a1.toNatClampNeg))) + 0)
  else
  (if (w 2 (a1.toNatClampNeg)) = 6 then
  (if (w 2 (a1.toNatClampNeg)) = 5 then
  (14 * (w 3 (a1.toNatClampNeg))) + 60
  else
  (14 * (w 3 (a1.toNatClampNeg))) + 0)
  else
  (if (w 2 (a1.toNatClampNeg)) = 5 then
  (10 * (w 3 (a1.toNatClampNeg))) + 60
  else
  (10 * (w 3 (a1.toNatClampNeg))) + 0)))
def sX7_plainBinding (w : Nat → Nat → Int32) (a1 : Int32) : Int32 :=
  (if (w 2 (a1.toNatClampNeg)) = 1 then
  8 * (w 3 (a1.toNatClampNeg))
  else
  (if (w 2 (a1.toNatClampNeg)) = 2 then
  (5 * (w 3 (a1.toNatClampNeg))) / 2
  else
  (if (w 2 (a1.toNatClampNeg)) = 4 then
  (sX7_atLeast0 (((5 * (w 3 (a1.toNatClampNeg))) / 2) - 10))
  else
  (if (w 2 (a1.toNatClampNeg)) = 5 then
  8 * (w 3 (a1.toNatClampNeg))
  else
  (if (w 2 (a1.toNatClampNeg)) = 6 then
  7 * (w 3 (a1.toNatClampNeg))
  else
  5 * (w 3 (a1.toNatClampNeg)))))))
def sX7_bindingOf (w : Nat → Nat → Int32) (a1 : Int32) : Int32 :=
  (sX7_atLeast0 ((sX7_plainBinding w a1) - (4 * (w 6 (a1.toNatClampNeg)))))
def sX7_thickOf (w : Nat → Nat → Int32) (a1 : Int32) : Int32 :=
  (if (w 2 (a1.toNatClampNeg)) = 2 then
  11
  else
  (if (w 2 (a1.toNatClampNeg)) = 3 then
  8
  else
  (if (w 2 (a1.toNatClampNeg)) = 4 then
  11
  else
  (if (w 2 (a1.toNatClampNeg)) = 6 then
  8
  else
  9))))
def sX7_loadOf_4 (w : Nat → Nat → Int32) : Nat → Int32 → Int32 → Int32
  | 0, _, _ => 0
  | n_4 + 1, x2_4, x3_4 =>
  (if (w 11 0) ≤ x3_4 then
  x2_4
  else
  (sX7_loadOf_4 w n_4) (x2_4 + (sX7_weightOf w x3_4)) (x3_4 + 1))
def sX7_loadOf (w : Nat → Nat → Int32) (a1 : Int32) : Int32 :=
  sX7_loadOf_4 w 13 0 a1
def sX7_heightNow_4 (w : Nat → Nat → Int32) : Nat → Int32 → Int32 → Int32
  | 0, _, _ => 0
  | n_4 + 1, x1_4, x2_4 =>
  (if (w 11 0) ≤ x2_4 then
  x1_4
  else
  (sX7_heightNow_4 w n_4) (x1_4 + (sX7_thickOf w x2_4)) (x2_4 + 1))
def sX7_heightNow (w : Nat → Nat → Int32) : Int32 :=
  sX7_heightNow_4 w 13 0 0
def sX7_allSheaves_4 (w : Nat → Nat → Int32) : Nat → Int32 → Int32 → Int32
  | 0, _, _ => 0
  | n_4 + 1, x1_4, x2_4 =>
  (if (w 11 0) ≤ x2_4 then
  x1_4
  else
  (sX7_allSheaves_4 w n_4) (x1_4 + (w 3 (x2_4.toNatClampNeg))) (x2_4 + 1))
def sX7_allSheaves (w : Nat → Nat → Int32) : Int32 :=
  sX7_allSheaves_4 w 13 0 0
def sX7_farthest_4 (w : Nat → Nat → Int32) : Nat → Int32 → Int32 → Int32
  | 0, _, _ => 0
  | n_4 + 1, x1_4, x2_4 =>
  (if (w 11 0) ≤ x2_4 then
  x1_4
  else
  (if (w 4 (x2_4.toNatClampNeg)) ≤ (w 4 (x1_4.toNatClampNeg)) then
  (sX7_farthest_4 w n_4) x1_4 (x2_4 + 1)
  else
  (sX7_farthest_4 w n_4) x2_4 (x2_4 + 1)))
def sX7_farthest (w : Nat → Nat → Int32) : Int32 :=
  sX7_farthest_4 w 13 0 1
def sX7_widthNow (w : Nat → Nat → Int32) : Int32 :=
  (if (w 11 0) = 0 then
  96 + 0
  else
  96 + (2 * (w 4 ((sX7_farthest w).toNatClampNeg))))
def sX7_shiftAt (w : Nat → Nat → Int32) (a1 : Int32) (a2 : Int32) : Int32 :=
  (if (w 7 (a1.toNatClampNeg)) = 0 then
  (if 0 ≤ (((w 8 (a1.toNatClampNeg)) - 10) + (w 5 (a2.toNatClampNeg))) then
  ((sX7_loadOf w a2) * (((w 8 (a1.toNatClampNeg)) - 10) + (w 5 (a2.toNatClampNeg)))) / 40
  else
  ((sX7_loadOf w a2) * (-(((w 8 (a1.toNatClampNeg)) - 10) + (w 5 (a2.toNatClampNeg))))) / 40)
  else
  (if (w 7 (a1.toNatClampNeg)) = 1 then
  ((sX7_loadOf w a2) * (w 8 (a1.toNatClampNeg))) / 60
  else
  (if (w 7 (a1.toNatClampNeg)) = 2 then
  ((((sX7_loadOf w a2) * (w 8 (a1.toNatClampNeg))) / 60) * (a2 + 1)) / 3
  else
  (if (w 7 (a1.toNatClampNeg)) = 3 then
  ((sX7_loadOf w a2) * ((w 8 (a1.toNatClampNeg)) + (w 4 (a2.toNatClampNeg)))) / 50
  else
  0))))
def sX7_spare (w : Nat → Nat → Int32) (a1 : Int32) (a2 : Int32) : Int32 :=
  ((sX7_bindingOf w a2) + (15 * (w 1 0))) - (sX7_shiftAt w a1 a2)
def sX7_isShift (w : Nat → Nat → Int32) (a1 : Int32) : Int32 :=
  (if 4 ≤ (w 7 (a1.toNatClampNeg)) then
  0
  else
  1)
def sX7_caught (w : Nat → Nat → Int32) (a1 : Int32) : Int32 :=
  (if (w 11 0) = 0 then
  (-9)
  else
  (if (w 7 (a1.toNatClampNeg)) = 4 then
  (if (sX7_heightNow w) ≤ (40 + (4 * (w 8 (a1.toNatClampNeg)))) then
  (-9)
  else
  (w 11 0) - 1)
  else
  (if (sX7_widthNow w) ≤ (90 + (w 8 (a1.toNatClampNeg))) then
  (-9)
  else
  (sX7_farthest w))))
def sX7_fellBits_32 (w : Nat → Nat → Int32) (a1 : Int32) : Nat → Int32 → Int32 → Int32
  | 0, _, _ => 0
  | n_32 + 1, x2_32, x3_32 =>
  (if (w 11 0) ≤ x3_32 then
  x2_32
  else
  (if 0 ≤ (sX7_spare w a1 x3_32) then
  (sX7_fellBits_32 w a1 n_32) (x2_32 ||| 0) (x3_32 + 1)
  else
  (sX7_fellBits_32 w a1 n_32) (x2_32 ||| (1 <<< (x3_32 &&& 31))) (x3_32 + 1)))
def sX7_fellBits (w : Nat → Nat → Int32) (a1 : Int32) : Int32 :=
  (if (sX7_isShift w a1) = 0 then
  (if 0 ≤ (sX7_caught w a1) then
  1 <<< ((sX7_caught w a1) &&& 31)
  else
  0)
  else
  sX7_fellBits_32 w a1 13 0 0)
def sX7_marginOf_27 (w : Nat → Nat → Int32) (x3_9 : Int32) (rec_9 : (Int32 → Int32 → (Int32))) : Nat → Int32 → Int32 → Int32
  | 0, _, _ => 0
  | n_27 + 1, x2_27, x4_27 =>
  (if (w 11 0) ≤ x4_27 then
  rec_9 x2_27 (x3_9 + 1)
  else
  (if (sX7_isShift w x3_9) = 0 then
  rec_9 x2_27 (x3_9 + 1)
  else
  (if x2_27 ≤ (sX7_spare w x3_9 x4_27) then
  (sX7_marginOf_27 w x3_9 rec_9 n_27) x2_27 (x4_27 + 1)
  else
  (sX7_marginOf_27 w x3_9 rec_9 n_27) ((sX7_spare w x3_9 x4_27)) (x4_27 + 1))))
def sX7_marginOf_9 (w : Nat → Nat → Int32) (a1 : Int32) : Nat → Int32 → Int32 → Int32
  | 0, _, _ => 0
  | n_9 + 1, x2_9, x3_9 =>
  (if ((6 * a1) + (w 10 (a1.toNatClampNeg))) ≤ x3_9 then
  x2_9
  else
  sX7_marginOf_27 w x3_9 (sX7_marginOf_9 w a1 n_9) 13 x2_9 0)
def sX7_marginOf (w : Nat → Nat → Int32) (a1 : Int32) : Int32 :=
  sX7_marginOf_9 w a1 13 9999 (6 * a1)
def sX7_minutesOf_7 (w : Nat → Nat → Int32) (a1 : Int32) : Nat → Int32 → Int32 → Int32
  | 0, _, _ => 0
  | n_7 + 1, x2_7, x3_7 =>
  (if ((6 * a1) + (w 10 (a1.toNatClampNeg))) ≤ x3_7 then
  x2_7
  else
  (sX7_minutesOf_7 w a1 n_7) (x2_7 + (w 9 (x3_7.toNatClampNeg))) (x3_7 + 1))
def sX7_minutesOf (w : Nat → Nat → Int32) (a1 : Int32) : Int32 :=
  sX7_minutesOf_7 w a1 13 0 (6 * a1)
def sX7_pitchMinutes (w : Nat → Nat → Int32) (a1 : Int32) : Int32 :=
  (((sX7_allSheaves w) + a1) - 1) / a1
def sX7_areTwos_2 (w : Nat → Nat → Int32) : Nat → Int32 → Int32
  | 0, _ => 0
  | n_2 + 1, x1_2 =>
  (if (w 27 0) ≤ x1_2 then
  (if ((w 27 0) - (w 27 0) / 2 * 2) = 0 then
  1
  else
  0)
  else
  (if (w 26 (x1_2.toNatClampNeg)) ≤ 1 then
  (sX7_areTwos_2 w n_2) (x1_2 + 2)
  else
  0))
def sX7_areTwos (w : Nat → Nat → Int32) : Int32 :=
  sX7_areTwos_2 w 14 1
def sX7_isBoundBy_2 (w : Nat → Nat → Int32) (a1 : Int32) (a2 : Int32) : Nat → Int32 → Int32
  | 0, _ => 0
  | n_2 + 1, x3_2 =>
  (if (w 27 0) ≤ x3_2 then
  1
  else
  (if ((w 26 (x3_2.toNatClampNeg)) * a1) < a2 then
  (if (w 26 ((x3_2 + 1).toNatClampNeg)) = 1 then
  0
  else
  (sX7_isBoundBy_2 w a1 a2 n_2) (x3_2 + 2))
  else
  (if (w 26 ((x3_2 + 1).toNatClampNeg)) = 1 then
  (sX7_isBoundBy_2 w a1 a2 n_2) (x3_2 + 2)
  else
  0)))
def sX7_isBoundBy (w : Nat → Nat → Int32) (a1 : Int32) (a2 : Int32) : Int32 :=
  sX7_isBoundBy_2 w a1 a2 13 0
def sX7_allWeight (w : Nat → Nat → Int32) : Int32 :=
  (if (w 11 0) = 0 then
  0
  else
  (sX7_loadOf w 0))
def sX7_count (w : Nat → Nat → Int32) (a1 : Int32) : Int32 :=
  (if (sX7_isIn a1 11 16) = 0 then
  (if a1 = 0 then
  w 11 0
  else
  (if a1 = 1 then
  w 10 ((a1 - 1).toNatClampNeg)
  else
  (if a1 = 2 then
  w 10 ((a1 - 1).toNatClampNeg)
  else
  (if a1 = 3 then
  (sX7_heightNow w)
  else
  (if a1 = 4 then
  (sX7_widthNow w)
  else
  (if a1 = 5 then
  (sX7_allWeight w)
  else
  (if a1 = 6 then
  (sX7_allSheaves w)
  else
  (if a1 = 7 then
  w 1 0
  else
  (if a1 = 8 then
  w 27 0
  else
  (if a1 = 9 then
  w 16 0
  else
  (-9)))))))))))
  else
  w 0 ((a1 - 10).toNatClampNeg))
/-! facts that the walks use -/
theorem fX7_isIn {a b c : Int32} (h : ¬ sX7_isIn a b c = 0) : b.toInt ≤ a.toInt ∧ a.toInt ≤ c.toInt := by
  unfold sX7_isIn at h
  by_cases h1 : a < b
  · rw [if_pos h1] at h; exact absurd rfl h
  · rw [if_neg h1] at h
    by_cases h2 : c < a
    · rw [if_pos h2] at h; exact absurd rfl h
    · exact ⟨i_nlt h1, i_nlt h2⟩
theorem fX7_isWay {a : Int32} (h : ¬ sX7_isWay a = 0) : 0 ≤ a.toInt ∧ a.toInt < 2 := by
  unfold sX7_isWay at h
  by_cases h1 : a = 0
  · subst h1; exact ⟨by decide, by decide⟩
  · rw [if_neg h1] at h
    by_cases h2 : a = 1
    · subst h2; exact ⟨by decide, by decide⟩
    · rw [if_neg h2] at h; exact absurd rfl h
theorem fX7_isLayer {w : Nat → Nat → Int32} {a : Int32} (h : ¬ sX7_isLayer w a = 0) : 0 ≤ a.toInt ∧ a.toInt < (w 11 0).toInt := by
  unfold sX7_isLayer at h
  by_cases h1 : a < 0
  · rw [if_pos h1] at h; exact absurd rfl h
  · rw [if_neg h1] at h
    by_cases h2 : w 11 0 ≤ a
    · rw [if_pos h2] at h; exact absurd rfl h
    · exact ⟨i_nlt h1, i_nle h2⟩
theorem fX7_isPiece {w : Nat → Nat → Int32} {a b : Int32} (h : ¬ sX7_isPiece w a b = 0) : 0 ≤ a.toInt ∧ a.toInt < 2 ∧ 0 ≤ b.toInt ∧ b.toInt < (w 10 (a.toNatClampNeg)).toInt := by
  unfold sX7_isPiece at h
  by_cases h0 : sX7_isWay a = 0
  · rw [if_pos h0] at h; exact absurd rfl h
  · rw [if_neg h0] at h
    by_cases h1 : b < 0
    · rw [if_pos h1] at h; exact absurd rfl h
    · rw [if_neg h1] at h
      by_cases h2 : w 10 (a.toNatClampNeg) ≤ b
      · rw [if_pos h2] at h; exact absurd rfl h
      · exact ⟨(fX7_isWay h0).1, (fX7_isWay h0).2, i_nlt h1, i_nle h2⟩
theorem rX7_bound (a b c : Int32) : (sX7_bound a b c).toInt = 0 ∨ (sX7_bound a b c).toInt = -4 ∨ (sX7_bound a b c).toInt = -6 := by
  unfold sX7_bound
  split
  · split
    · exact Or.inl rfl
    · exact Or.inr (Or.inr rfl)
  · exact Or.inr (Or.inl rfl)
theorem rX7_farthest_4 {w : Nat → Nat → Int32} (h : R7I w) : ∀ (n : Nat) (x y : Int32), 0 ≤ x.toInt → x.toInt < 12 → 0 ≤ y.toInt → y.toInt ≤ 12 → 0 ≤ (sX7_farthest_4 w n x y).toInt ∧ (sX7_farthest_4 w n x y).toInt < 12 := by
  intro n
  induction n with
  | zero => intro x y _ _ _ _; exact ⟨by decide, by decide⟩
  | succ n ih =>
    intro x y h1 h2 h3 h4
    have hl := R7I_layers h
    rw [sX7_farthest_4]
    have q1 := q_1
    by_cases c : w 11 0 ≤ y
    · rw [if_pos c]; exact ⟨h1, h2⟩
    · have fc := i_nle c
      have e := i_add (a := y) (b := 1) (by omega) (by omega)
      rw [if_neg c]
      split
      · exact ih _ _ h1 h2 (by omega) (by omega)
      · exact ih _ _ (by omega) (by omega) (by omega) (by omega)
theorem rX7_farthest {w : Nat → Nat → Int32} (h : R7I w) : 0 ≤ (sX7_farthest w).toInt ∧ (sX7_farthest w).toInt < 12 := rX7_farthest_4 h _ _ _ (by decide) (by decide) (by decide) (by decide)
