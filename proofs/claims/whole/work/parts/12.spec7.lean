def sX7_isIn (a1 : Int32) (a2 : Int32) (a3 : Int32) : Int32 :=
  (if a1 < a2 then
  0
  else
  (if a3 < a1 then
  0
  else
  1))
def sX7_bound (a1 : Int32) (a2 : Int32) (a3 : Int32) : Int32 :=
  (if a2 ≤ a1 then
  (if a1 ≤ a3 then
  0
  else
  (-6))
  else
  (-4))
def sX7_layerOf (a1 : Int32) : Int32 :=
  (if a1 = 98 then
  1
  else
  (if a1 = 104 then
  4
  else
  (if a1 = 108 then
  0
  else
  (if a1 = 109 then
  6
  else
  (if a1 = 111 then
  2
  else
  (if a1 = 116 then
  5
  else
  (if a1 = 119 then
  3
  else
  (-1))))))))
def sX7_pieceOf (a1 : Int32) : Int32 :=
  (if a1 = 98 then
  3
  else
  (if a1 = 100 then
  1
  else
  (if a1 = 103 then
  5
  else
  (if a1 = 106 then
  2
  else
  (if a1 = 114 then
  4
  else
  (if a1 = 115 then
  0
  else
  (-1)))))))
def sX7_atLeast0 (a1 : Int32) : Int32 :=
  (if 0 ≤ a1 then
  a1
  else
  0)
def sX7_mostOf (a1 : Int32) : Int32 :=
  (if a1 = 0 then
  5
  else
  (if a1 = 3 then
  999
  else
  9))
def sX7_heldLean (a1 : Int32) : Int32 :=
  (if (-5) ≤ a1 then
  (if a1 ≤ 5 then
  a1
  else
  5)
  else
  (-5))
def sX7_isWay (a1 : Int32) : Int32 :=
  (if a1 = 0 then
  1
  else
  (if a1 = 1 then
  1
  else
  0))
def sX7_isLayer (w : Nat → Nat → Int32) (a1 : Int32) : Int32 :=
  (if a1 < 0 then
  0
  else
  (if (w 11 0) ≤ a1 then
  0
  else
  1))
def sX7_isPiece (w : Nat → Nat → Int32) (a1 : Int32) (a2 : Int32) : Int32 :=
  (if (sX7_isWay a1) = 0 then
  0
  else
  (if a2 < 0 then
  0
  else
  (if (w 10 (a1.toNatClampNeg)) ≤ a2 then
  0
  else
  1)))
def sX7_next (w : Nat → Nat → Int32) : Int32 :=
  (if (w 16 0) ≤ (w 17 0) then
  (-1)
  else
  w 12 ((w 17 0).toNatClampNeg))
def sX7_weightOf (w : Nat → Nat → Int32) (a1 : Int32) : Int32 :=
  (if (w 2 (a1.toNatClampNeg)) = 3 then
  (if (w 2 (a1.toNatClampNeg)) = 5 then
  (14 * (w 3 (a1.toNatClampNeg))) + 60
  else
  (14 * (w 3 (a1.toNatClampNeg))) + 0)
  else
  (if (w 2 (a1.toNatClampNeg)) = 6 then
  (if (w 2 (a1.toNatClampNeg)) = 5 then
  (14 * (w 3 (a1.toNatClampNeg))) + 60
  else
  (14 * (w 3 (a1.toNatClampNeg))) + 0)
  else
  (if (w 2 (a1.toNatClampNeg)) = 5 then
  (10 * (w 3 (a1.toNatClampNeg))) + 60
  else
  (10 * (w 3 (a1.toNatClampNeg))) + 0)))
def sX7_plainBinding (w : Nat → Nat → Int32) (a1 : Int32) : Int32 :=
  (if (w 2 (a1.toNatClampNeg)) = 1 then
  8 * (w 3 (a1.toNatClampNeg))
  else
  (if (w 2 (a1.toNatClampNeg)) = 2 then
  (5 * (w 3 (a1.toNatClampNeg))) / 2
  else
  (if (w 2 (a1.toNatClampNeg)) = 4 then
  (sX7_atLeast0 (((5 * (w 3 (a1.toNatClampNeg))) / 2) - 10))
  else
  (if (w 2 (a1.toNatClampNeg)) = 5 then
  8 * (w 3 (a1.toNatClampNeg))
  else
  (if (w 2 (a1.toNatClampNeg)) = 6 then
  7 * (w 3 (a1.toNatClampNeg))
  else
  5 * (w 3 (a1.toNatClampNeg)))))))
def sX7_bindingOf (w : Nat → Nat → Int32) (a1 : Int32) : Int32 :=
  (sX7_atLeast0 ((sX7_plainBinding w a1) - (4 * (w 6 (a1.toNatClampNeg)))))
def sX7_thickOf (w : Nat → Nat → Int32) (a1 : Int32) : Int32 :=
  (if (w 2 (a1.toNatClampNeg)) = 2 then
  11
  else
  (if (w 2 (a1.toNatClampNeg)) = 3 then
  8
  else
  (if (w 2 (a1.toNatClampNeg)) = 4 then
  11
  else
  (if (w 2 (a1.toNatClampNeg)) = 6 then
  8
  else
  9))))
def sX7_loadOf_4 (w : Nat → Nat → Int32) : Nat → Int32 → Int32 → Int32
  | 0, _, _ => 0
  | n_4 + 1, x2_4, x3_4 =>
  (if (w 11 0) ≤ x3_4 then
  x2_4
  else
  (sX7_loadOf_4 w n_4) (x2_4 + (sX7_weightOf w x3_4)) (x3_4 + 1))
def sX7_loadOf (w : Nat → Nat → Int32) (a1 : Int32) : Int32 :=
  sX7_loadOf_4 w 13 0 a1
def sX7_heightNow_4 (w : Nat → Nat → Int32) : Nat → Int32 → Int32 → Int32
  | 0, _, _ => 0
  | n_4 + 1, x1_4, x2_4 =>
  (if (w 11 0) ≤ x2_4 then
  x1_4
  else
  (sX7_heightNow_4 w n_4) (x1_4 + (sX7_thickOf w x2_4)) (x2_4 + 1))
def sX7_heightNow (w : Nat → Nat → Int32) : Int32 :=
  sX7_heightNow_4 w 13 0 0
def sX7_allSheaves_4 (w : Nat → Nat → Int32) : Nat → Int32 → Int32 → Int32
  | 0, _, _ => 0
  | n_4 + 1, x1_4, x2_4 =>
  (if (w 11 0) ≤ x2_4 then
  x1_4
  else
  (sX7_allSheaves_4 w n_4) (x1_4 + (w 3 (x2_4.toNatClampNeg))) (x2_4 + 1))
def sX7_allSheaves (w : Nat → Nat → Int32) : Int32 :=
  sX7_allSheaves_4 w 13 0 0
def sX7_farthest_4 (w : Nat → Nat → Int32) : Nat → Int32 → Int32 → Int32
  | 0, _, _ => 0
  | n_4 + 1, x1_4, x2_4 =>
  (if (w 11 0) ≤ x2_4 then
  x1_4
  else
  (if (w 4 (x2_4.toNatClampNeg)) ≤ (w 4 (x1_4.toNatClampNeg)) then
  (sX7_farthest_4 w n_4) x1_4 (x2_4 + 1)
  else
  (sX7_farthest_4 w n_4) x2_4 (x2_4 + 1)))
def sX7_farthest (w : Nat → Nat → Int32) : Int32 :=
  sX7_farthest_4 w 13 0 1
def sX7_widthNow (w : Nat → Nat → Int32) : Int32 :=
  (if (w 11 0) = 0 then
  96 + 0
  else
  96 + (2 * (w 4 ((sX7_farthest w).toNatClampNeg))))
def sX7_shiftAt (w : Nat → Nat → Int32) (a1 : Int32) (a2 : Int32) : Int32 :=
  (if (w 7 (a1.toNatClampNeg)) = 0 then
  (if 0 ≤ (((w 8 (a1.toNatClampNeg)) - 10) + (w 5 (a2.toNatClampNeg))) then
  ((sX7_loadOf w a2) * (((w 8 (a1.toNatClampNeg)) - 10) + (w 5 (a2.toNatClampNeg)))) / 40
  else
  ((sX7_loadOf w a2) * (-(((w 8 (a1.toNatClampNeg)) - 10) + (w 5 (a2.toNatClampNeg))))) / 40)
  else
  (if (w 7 (a1.toNatClampNeg)) = 1 then
  ((sX7_loadOf w a2) * (w 8 (a1.toNatClampNeg))) / 60
  else
  (if (w 7 (a1.toNatClampNeg)) = 2 then
  ((((sX7_loadOf w a2) * (w 8 (a1.toNatClampNeg))) / 60) * (a2 + 1)) / 3
  else
  (if (w 7 (a1.toNatClampNeg)) = 3 then
  ((sX7_loadOf w a2) * ((w 8 (a1.toNatClampNeg)) + (w 4 (a2.toNatClampNeg)))) / 50
  else
  0))))
def sX7_spare (w : Nat → Nat → Int32) (a1 : Int32) (a2 : Int32) : Int32 :=
  ((sX7_bindingOf w a2) + (15 * (w 1 0))) - (sX7_shiftAt w a1 a2)
def sX7_isShift (w : Nat → Nat → Int32) (a1 : Int32) : Int32 :=
  (if 4 ≤ (w 7 (a1.toNatClampNeg)) then
  0
  else
  1)
def sX7_caught (w : Nat → Nat → Int32) (a1 : Int32) : Int32 :=
  (if (w 11 0) = 0 then
  (-9)
  else
  (if (w 7 (a1.toNatClampNeg)) = 4 then
  (if (sX7_heightNow w) ≤ (40 + (4 * (w 8 (a1.toNatClampNeg)))) then
  (-9)
  else
  (w 11 0) - 1)
  else
  (if (sX7_widthNow w) ≤ (90 + (w 8 (a1.toNatClampNeg))) then
  (-9)
  else
  (sX7_farthest w))))
def sX7_fellBits_32 (w : Nat → Nat → Int32) (a1 : Int32) : Nat → Int32 → Int32 → Int32
  | 0, _, _ => 0
  | n_32 + 1, x2_32, x3_32 =>
  (if (w 11 0) ≤ x3_32 then
  x2_32
  else
  (if 0 ≤ (sX7_spare w a1 x3_32) then
  (sX7_fellBits_32 w a1 n_32) (x2_32 ||| 0) (x3_32 + 1)
  else
  (sX7_fellBits_32 w a1 n_32) (x2_32 ||| (1 <<< (x3_32 &&& 31))) (x3_32 + 1)))
def sX7_fellBits (w : Nat → Nat → Int32) (a1 : Int32) : Int32 :=
  (if (sX7_isShift w a1) = 0 then
  (if 0 ≤ (sX7_caught w a1) then
  1 <<< ((sX7_caught w a1) &&& 31)
  else
  0)
  else
  sX7_fellBits_32 w a1 13 0 0)
def sX7_marginOf_27 (w : Nat → Nat → Int32) (x3_9 : Int32) (rec_9 : (Int32 → Int32 → (Int32))) : Nat → Int32 → Int32 → Int32
  | 0, _, _ => 0
  | n_27 + 1, x2_27, x4_27 =>
  (if (w 11 0) ≤ x4_27 then
  rec_9 x2_27 (x3_9 + 1)
  else
  (if (sX7_isShift w x3_9) = 0 then
  rec_9 x2_27 (x3_9 + 1)
  else
  (if x2_27 ≤ (sX7_spare w x3_9 x4_27) then
  (sX7_marginOf_27 w x3_9 rec_9 n_27) x2_27 (x4_27 + 1)
  else
  (sX7_marginOf_27 w x3_9 rec_9 n_27) ((sX7_spare w x3_9 x4_27)) (x4_27 + 1))))
def sX7_marginOf_9 (w : Nat → Nat → Int32) (a1 : Int32) : Nat → Int32 → Int32 → Int32
  | 0, _, _ => 0
  | n_9 + 1, x2_9, x3_9 =>
  (if ((6 * a1) + (w 10 (a1.toNatClampNeg))) ≤ x3_9 then
  x2_9
  else
  sX7_marginOf_27 w x3_9 (sX7_marginOf_9 w a1 n_9) 13 x2_9 0)
def sX7_marginOf (w : Nat → Nat → Int32) (a1 : Int32) : Int32 :=
  sX7_marginOf_9 w a1 13 9999 (6 * a1)
def sX7_minutesOf_7 (w : Nat → Nat → Int32) (a1 : Int32) : Nat → Int32 → Int32 → Int32
  | 0, _, _ => 0
  | n_7 + 1, x2_7, x3_7 =>
  (if ((6 * a1) + (w 10 (a1.toNatClampNeg))) ≤ x3_7 then
  x2_7
  else
  (sX7_minutesOf_7 w a1 n_7) (x2_7 + (w 9 (x3_7.toNatClampNeg))) (x3_7 + 1))
def sX7_minutesOf (w : Nat → Nat → Int32) (a1 : Int32) : Int32 :=
  sX7_minutesOf_7 w a1 13 0 (6 * a1)
def sX7_pitchMinutes (w : Nat → Nat → Int32) (a1 : Int32) : Int32 :=
  (((sX7_allSheaves w) + a1) - 1) / a1
def sX7_areTwos_2 (w : Nat → Nat → Int32) : Nat → Int32 → Int32
  | 0, _ => 0
  | n_2 + 1, x1_2 =>
  (if (w 27 0) ≤ x1_2 then
  (if ((w 27 0) - (w 27 0) / 2 * 2) = 0 then
  1
  else
  0)
  else
  (if (w 26 (x1_2.toNatClampNeg)) ≤ 1 then
  (sX7_areTwos_2 w n_2) (x1_2 + 2)
  else
  0))
def sX7_areTwos (w : Nat → Nat → Int32) : Int32 :=
  sX7_areTwos_2 w 14 1
def sX7_isBoundBy_2 (w : Nat → Nat → Int32) (a1 : Int32) (a2 : Int32) : Nat → Int32 → Int32
  | 0, _ => 0
  | n_2 + 1, x3_2 =>
  (if (w 27 0) ≤ x3_2 then
  1
  else
  (if ((w 26 (x3_2.toNatClampNeg)) * a1) < a2 then
  (if (w 26 ((x3_2 + 1).toNatClampNeg)) = 1 then
  0
  else
  (sX7_isBoundBy_2 w a1 a2 n_2) (x3_2 + 2))
  else
  (if (w 26 ((x3_2 + 1).toNatClampNeg)) = 1 then
  (sX7_isBoundBy_2 w a1 a2 n_2) (x3_2 + 2)
  else
  0)))
def sX7_isBoundBy (w : Nat → Nat → Int32) (a1 : Int32) (a2 : Int32) : Int32 :=
  sX7_isBoundBy_2 w a1 a2 13 0
def sX7_allWeight (w : Nat → Nat → Int32) : Int32 :=
  (if (w 11 0) = 0 then
  0
  else
  (sX7_loadOf w 0))
def sX7_count (w : Nat → Nat → Int32) (a1 : Int32) : Int32 :=
  (if (sX7_isIn a1 11 16) = 0 then
  (if a1 = 0 then
  w 11 0
  else
  (if a1 = 1 then
  w 10 ((a1 - 1).toNatClampNeg)
  else
  (if a1 = 2 then
  w 10 ((a1 - 1).toNatClampNeg)
  else
  (if a1 = 3 then
  (sX7_heightNow w)
  else
  (if a1 = 4 then
  (sX7_widthNow w)
  else
  (if a1 = 5 then
  (sX7_allWeight w)
  else
  (if a1 = 6 then
  (sX7_allSheaves w)
  else
  (if a1 = 7 then
  w 1 0
  else
  (if a1 = 8 then
  w 27 0
  else
  (if a1 = 9 then
  w 16 0
  else
  (-9)))))))))))
  else
  w 0 ((a1 - 10).toNatClampNeg))
def sX7_no (w : Nat → Nat → Int32) (a1 : Int32) : Int32 × (Nat → Nat → Int32) :=
  bns (st w 0 ((-a1).toNatClampNeg) ((w 0 ((-a1).toNatClampNeg)) + 1)) (fun wn_2 =>
  (a1, wn_2))
def sX7_lower (w : Nat → Nat → Int32) (a1 : Int32) : Int32 × (Nat → Nat → Int32) :=
  bns (st w 0 ((-a1).toNatClampNeg) ((w 0 ((-a1).toNatClampNeg)) + 1)) (fun wn_2 =>
  (1000000000 - a1, wn_2))
def sX7_lowest (w : Nat → Nat → Int32) (a1 : Int32) : Int64 × (Nat → Nat → Int32) :=
  bns (st w 0 ((-a1).toNatClampNeg) ((w 0 ((-a1).toNatClampNeg)) + 1)) (fun wn_2 =>
  (4000000000000000000 - a1.toInt64, wn_2))
def sX7_letter (w : Nat → Nat → Int32) (a1 : Int32) : Int32 × (Nat → Nat → Int32) :=
  (if (sX7_bound a1 0 255) = 0 then
  (if (w 16 0) = 96 then
  bnd (sX7_no w (-6)) (fun rn_11 wn_11 =>
  (rn_11, wn_11))
  else
  bns (st w 12 ((w 16 0).toNatClampNeg) a1) (fun wn_7 =>
  bns (st wn_7 16 0 ((wn_7 16 0) + 1)) (fun wn_9 =>
  (wn_9 16 0, wn_9))))
  else
  bnd (sX7_no w (sX7_bound a1 0 255)) (fun rn_3 wn_3 =>
  (rn_3, wn_3)))
def sX7_readsNumber_6 (a1 : Int32) (a2 : Int32) (a3 : Int32) : Nat → Int32 → Int32 → (Nat → Nat → Int32) → Int32 × (Nat → Nat → Int32)
  | 0, _, _, _ => (0, (fun _ _ => 0))
  | n_6 + 1, x4_6, x5_6, w_6 =>
  (if a3 ≤ x5_6 then
  bns (st w_6 15 (a1.toNatClampNeg) x4_6) (fun wn_2 =>
  (if x5_6 < a2 then
  (0, wn_2)
  else
  (1, wn_2)))
  else
  (if (sX7_isIn (sX7_next w_6) 48 57) = 0 then
  bns (st w_6 15 (a1.toNatClampNeg) x4_6) (fun wn_7 =>
  (if x5_6 < a2 then
  (0, wn_7)
  else
  (1, wn_7)))
  else
  bns (st w_6 17 0 ((w_6 17 0) + 1)) (fun wn_11 =>
  (sX7_readsNumber_6 a1 a2 a3 n_6) (((10 * x4_6) + (sX7_next w_6)) - 48) (x5_6 + 1) wn_11)))
def sX7_readsNumber (w : Nat → Nat → Int32) (a1 : Int32) (a2 : Int32) (a3 : Int32) : Int32 × (Nat → Nat → Int32) :=
  sX7_readsNumber_6 a1 a2 a3 97 0 0 w
def sX7_readsLayer (w : Nat → Nat → Int32) (a1 : Int32) : Int32 × (Nat → Nat → Int32) :=
  bns (st w 15 (a1.toNatClampNeg) (sX7_layerOf (sX7_next w))) (fun wn_3 =>
  (if 0 ≤ (wn_3 15 (a1.toNatClampNeg)) then
  bns (st wn_3 17 0 ((wn_3 17 0) + 1)) (fun wn_7 =>
  bnd (sX7_readsNumber wn_7 (a1 + 1) 2 2) (fun rn_8 wn_8 =>
  (if rn_8 = 0 then
  (0, wn_8)
  else
  bnd (sX7_readsNumber wn_8 (a1 + 2) 1 1) (fun rn_10 wn_10 =>
  (if rn_10 = 0 then
  (0, wn_10)
  else
  (if (sX7_next wn_10) = 43 then
  bns (st wn_10 17 0 ((wn_10 17 0) + 1)) (fun wn_23 =>
  bnd (sX7_readsNumber wn_23 (a1 + 3) 1 1) (fun rn_24 wn_24 =>
  (if rn_24 = 0 then
  (0, wn_24)
  else
  bns (st wn_24 15 ((a1 + 3).toNatClampNeg) ((wn_24 15 ((a1 + 3).toNatClampNeg)) * 1)) (fun wn_27 =>
  (1, wn_27)))))
  else
  (if (sX7_next wn_10) = 45 then
  bns (st wn_10 17 0 ((wn_10 17 0) + 1)) (fun wn_17 =>
  bnd (sX7_readsNumber wn_17 (a1 + 3) 1 1) (fun rn_18 wn_18 =>
  (if rn_18 = 0 then
  (0, wn_18)
  else
  bns (st wn_18 15 ((a1 + 3).toNatClampNeg) ((wn_18 15 ((a1 + 3).toNatClampNeg)) * (-1))) (fun wn_21 =>
  (1, wn_21)))))
  else
  (0, wn_10))))))))
  else
  (0, wn_3)))
def sX7_readsPiece (w : Nat → Nat → Int32) (a1 : Int32) : Int32 × (Nat → Nat → Int32) :=
  bnd (sX7_readsNumber w a1 1 1) (fun rn_1 wn_1 =>
  (if rn_1 = 0 then
  (0, wn_1)
  else
  bns (st wn_1 15 ((a1 + 1).toNatClampNeg) (sX7_pieceOf (sX7_next wn_1))) (fun wn_5 =>
  (if 0 ≤ (wn_5 15 ((a1 + 1).toNatClampNeg)) then
  bns (st wn_5 17 0 ((wn_5 17 0) + 1)) (fun wn_9 =>
  bnd (sX7_readsNumber wn_9 (a1 + 2) 2 2) (fun rn_10 wn_10 =>
  (if rn_10 = 0 then
  (0, wn_10)
  else
  bnd (sX7_readsNumber wn_10 (a1 + 3) 1 1) (fun rn_12 wn_12 =>
  (if rn_12 = 0 then
  (0, wn_12)
  else
  (1, wn_12))))))
  else
  (0, wn_5)))))
def sX7_readsAll (w : Nat → Nat → Int32) (a1 : Int32) (a2 : Int32) : Int32 × (Nat → Nat → Int32) :=
  (if a1 = 102 then
  bnd (sX7_readsNumber w a2 1 3) (fun rn_2 wn_2 =>
  (rn_2, wn_2))
  else
  (if a1 = 107 then
  bnd (sX7_readsNumber w a2 1 1) (fun rn_4 wn_4 =>
  (if rn_4 = 0 then
  (0, wn_4)
  else
  bnd (sX7_readsNumber wn_4 (a2 + 1) 1 1) (fun rn_6 wn_6 =>
  (if rn_6 = 0 then
  (0, wn_6)
  else
  (1, wn_6)))))
  else
  (if a1 = 114 then
  bnd (sX7_readsNumber w a2 1 1) (fun rn_9 wn_9 =>
  (rn_9, wn_9))
  else
  (if a1 = 119 then
  bnd (sX7_readsPiece w a2) (fun rn_11 wn_11 =>
  (rn_11, wn_11))
  else
  (if a1 = 121 then
  bnd (sX7_readsLayer w a2) (fun rn_13 wn_13 =>
  (rn_13, wn_13))
  else
  (1, w))))))
def sX7_statement (w : Nat → Nat → Int32) : Int32 × (Nat → Nat → Int32) :=
  (if (sX7_next w) = 121 then
  bns (st w 13 ((w 18 0).toNatClampNeg) (sX7_next w)) (fun wn_4 =>
  bns (st wn_4 14 ((wn_4 18 0).toNatClampNeg) (wn_4 17 0)) (fun wn_7 =>
  bns (st wn_7 17 0 ((wn_7 17 0) + 1)) (fun wn_9 =>
  bnd (sX7_readsAll wn_9 (sX7_next w) (4 * (wn_9 18 0))) (fun rn_11 wn_11 =>
  (if rn_11 = 0 then
  (0, wn_11)
  else
  (if (sX7_next wn_11) = 59 then
  bns (st wn_11 17 0 ((wn_11 17 0) + 1)) (fun wn_16 =>
  (1, wn_16))
  else
  (0, wn_11)))))))
  else
  (if (sX7_next w) = 119 then
  bns (st w 13 ((w 18 0).toNatClampNeg) (sX7_next w)) (fun wn_19 =>
  bns (st wn_19 14 ((wn_19 18 0).toNatClampNeg) (wn_19 17 0)) (fun wn_22 =>
  bns (st wn_22 17 0 ((wn_22 17 0) + 1)) (fun wn_24 =>
  bnd (sX7_readsAll wn_24 (sX7_next w) (4 * (wn_24 18 0))) (fun rn_26 wn_26 =>
  (if rn_26 = 0 then
  (0, wn_26)
  else
  (if (sX7_next wn_26) = 59 then
  bns (st wn_26 17 0 ((wn_26 17 0) + 1)) (fun wn_31 =>
  (1, wn_31))
  else
  (0, wn_26)))))))
  else
  (if (sX7_next w) = 114 then
  bns (st w 13 ((w 18 0).toNatClampNeg) (sX7_next w)) (fun wn_34 =>
  bns (st wn_34 14 ((wn_34 18 0).toNatClampNeg) (wn_34 17 0)) (fun wn_37 =>
  bns (st wn_37 17 0 ((wn_37 17 0) + 1)) (fun wn_39 =>
  bnd (sX7_readsAll wn_39 (sX7_next w) (4 * (wn_39 18 0))) (fun rn_41 wn_41 =>
  (if rn_41 = 0 then
  (0, wn_41)
  else
  (if (sX7_next wn_41) = 59 then
  bns (st wn_41 17 0 ((wn_41 17 0) + 1)) (fun wn_46 =>
  (1, wn_46))
  else
  (0, wn_41)))))))
  else
  (if (sX7_next w) = 107 then
  bns (st w 13 ((w 18 0).toNatClampNeg) (sX7_next w)) (fun wn_49 =>
  bns (st wn_49 14 ((wn_49 18 0).toNatClampNeg) (wn_49 17 0)) (fun wn_52 =>
  bns (st wn_52 17 0 ((wn_52 17 0) + 1)) (fun wn_54 =>
  bnd (sX7_readsAll wn_54 (sX7_next w) (4 * (wn_54 18 0))) (fun rn_56 wn_56 =>
  (if rn_56 = 0 then
  (0, wn_56)
  else
  (if (sX7_next wn_56) = 59 then
  bns (st wn_56 17 0 ((wn_56 17 0) + 1)) (fun wn_61 =>
  (1, wn_61))
  else
  (0, wn_56)))))))
  else
  (if (sX7_next w) = 102 then
  bns (st w 13 ((w 18 0).toNatClampNeg) (sX7_next w)) (fun wn_64 =>
  bns (st wn_64 14 ((wn_64 18 0).toNatClampNeg) (wn_64 17 0)) (fun wn_67 =>
  bns (st wn_67 17 0 ((wn_67 17 0) + 1)) (fun wn_69 =>
  bnd (sX7_readsAll wn_69 (sX7_next w) (4 * (wn_69 18 0))) (fun rn_71 wn_71 =>
  (if rn_71 = 0 then
  (0, wn_71)
  else
  (if (sX7_next wn_71) = 59 then
  bns (st wn_71 17 0 ((wn_71 17 0) + 1)) (fun wn_76 =>
  (1, wn_76))
  else
  (0, wn_71)))))))
  else
  (if (sX7_next w) = 117 then
  bns (st w 13 ((w 18 0).toNatClampNeg) (sX7_next w)) (fun wn_79 =>
  bns (st wn_79 14 ((wn_79 18 0).toNatClampNeg) (wn_79 17 0)) (fun wn_82 =>
  bns (st wn_82 17 0 ((wn_82 17 0) + 1)) (fun wn_84 =>
  bnd (sX7_readsAll wn_84 (sX7_next w) (4 * (wn_84 18 0))) (fun rn_86 wn_86 =>
  (if rn_86 = 0 then
  (0, wn_86)
  else
  (if (sX7_next wn_86) = 59 then
  bns (st wn_86 17 0 ((wn_86 17 0) + 1)) (fun wn_91 =>
  (1, wn_91))
  else
  (0, wn_86)))))))
  else
  (0, w)))))))
def sX7_comesLayer (w : Nat → Nat → Int32) (a1 : Int32) : Int32 × (Nat → Nat → Int32) :=
  (if (sX7_isIn (w 15 ((a1 + 1).toNatClampNeg)) 1 20) = 0 then
  (0, w)
  else
  (if (sX7_isIn (w 15 ((a1 + 3).toNatClampNeg)) (-5) 5) = 0 then
  (0, w)
  else
  (if (w 11 0) = 11 then
  (0, w)
  else
  bns (st w 2 ((w 11 0).toNatClampNeg) (w 15 (a1.toNatClampNeg))) (fun wn_11 =>
  bns (st wn_11 3 ((wn_11 11 0).toNatClampNeg) (wn_11 15 ((a1 + 1).toNatClampNeg))) (fun wn_14 =>
  bns (st wn_14 4 ((wn_14 11 0).toNatClampNeg) (wn_14 15 ((a1 + 2).toNatClampNeg))) (fun wn_17 =>
  bns (st wn_17 5 ((wn_17 11 0).toNatClampNeg) (wn_17 15 ((a1 + 3).toNatClampNeg))) (fun wn_20 =>
  bns (st wn_20 11 0 ((wn_20 11 0) + 1)) (fun wn_22 =>
  (1, wn_22)))))))))
def sX7_comesPiece (w : Nat → Nat → Int32) (a1 : Int32) : Int32 × (Nat → Nat → Int32) :=
  (if (sX7_isWay (w 15 (a1.toNatClampNeg))) = 0 then
  (0, w)
  else
  (if 20 < (w 15 ((a1 + 2).toNatClampNeg)) then
  (0, w)
  else
  (if (w 15 ((a1 + 3).toNatClampNeg)) = 0 then
  (0, w)
  else
  (if (w 10 ((w 15 (a1.toNatClampNeg)).toNatClampNeg)) = 6 then
  (0, w)
  else
  bns (st w 7 (((6 * (w 15 (a1.toNatClampNeg))) + (w 10 ((w 15 (a1.toNatClampNeg)).toNatClampNeg))).toNatClampNeg) (w 15 ((a1 + 1).toNatClampNeg))) (fun wn_12 =>
  bns (st wn_12 8 (((6 * (w 15 (a1.toNatClampNeg))) + (w 10 ((w 15 (a1.toNatClampNeg)).toNatClampNeg))).toNatClampNeg) (wn_12 15 ((a1 + 2).toNatClampNeg))) (fun wn_14 =>
  bns (st wn_14 9 (((6 * (w 15 (a1.toNatClampNeg))) + (w 10 ((w 15 (a1.toNatClampNeg)).toNatClampNeg))).toNatClampNeg) (wn_14 15 ((a1 + 3).toNatClampNeg))) (fun wn_16 =>
  bns (st wn_16 10 ((w 15 (a1.toNatClampNeg)).toNatClampNeg) ((wn_16 10 ((w 15 (a1.toNatClampNeg)).toNatClampNeg)) + 1)) (fun wn_18 =>
  (1, wn_18)))))))))
def sX7_comes (w : Nat → Nat → Int32) (a1 : Int32) : Int32 × (Nat → Nat → Int32) :=
  (if (w 13 (a1.toNatClampNeg)) = 102 then
  bns (st w 1 3 (w 15 ((4 * a1).toNatClampNeg))) (fun wn_4 =>
  (1, wn_4))
  else
  (if (w 13 (a1.toNatClampNeg)) = 107 then
  bns (st w 1 1 (w 15 ((4 * a1).toNatClampNeg))) (fun wn_7 =>
  bns (st wn_7 1 2 (wn_7 15 (((4 * a1) + 1).toNatClampNeg))) (fun wn_9 =>
  (if (wn_9 15 ((4 * a1).toNatClampNeg)) ≤ 0 then
  (0, wn_9)
  else
  (if (wn_9 15 (((4 * a1) + 1).toNatClampNeg)) ≤ 0 then
  (0, wn_9)
  else
  (1, wn_9)))))
  else
  (if (w 13 (a1.toNatClampNeg)) = 114 then
  bns (st w 1 0 (w 15 ((4 * a1).toNatClampNeg))) (fun wn_16 =>
  (if 5 < (wn_16 15 ((4 * a1).toNatClampNeg)) then
  (0, wn_16)
  else
  (1, wn_16)))
  else
  (if (w 13 (a1.toNatClampNeg)) = 119 then
  bnd (sX7_comesPiece w (4 * a1)) (fun rn_20 wn_20 =>
  (rn_20, wn_20))
  else
  (if (w 13 (a1.toNatClampNeg)) = 121 then
  bnd (sX7_comesLayer w (4 * a1)) (fun rn_22 wn_22 =>
  (rn_22, wn_22))
  else
  (if (w 11 0) = 0 then
  (0, w)
  else
  bns (st w 11 0 ((w 11 0) - 1)) (fun wn_26 =>
  (1, wn_26))))))))
def sX7_passes_setting_2  : Nat → Int32 → (Nat → Nat → Int32) → Nat → Nat → Int32
  | 0, _, _ => (fun _ _ => 0)
  | n_2 + 1, x2_2, w_2 =>
  (if 4 ≤ x2_2 then
  w_2
  else
  (if (w_2 21 0) = 0 then
  bns (st w_2 1 (x2_2.toNatClampNeg) (w_2 19 ((w_2 22 0).toNatClampNeg))) (fun wn_4 =>
  bns (st wn_4 22 0 ((wn_4 22 0) + 1)) (fun wn_5 =>
  (sX7_passes_setting_2 n_2) (x2_2 + 1) wn_5))
  else
  bns (st w_2 19 ((w_2 22 0).toNatClampNeg) (w_2 1 (x2_2.toNatClampNeg))) (fun wn_7 =>
  bns (st wn_7 22 0 ((wn_7 22 0) + 1)) (fun wn_8 =>
  (sX7_passes_setting_2 n_2) (x2_2 + 1) wn_8))))
def sX7_passes_setting (w : Nat → Nat → Int32) : Nat → Nat → Int32 :=
  sX7_passes_setting_2 5 0 w
def sX7_passes_kind_2  : Nat → Int32 → (Nat → Nat → Int32) → Nat → Nat → Int32
  | 0, _, _ => (fun _ _ => 0)
  | n_2 + 1, x2_2, w_2 =>
  (if 12 ≤ x2_2 then
  w_2
  else
  (if (w_2 21 0) = 0 then
  bns (st w_2 2 (x2_2.toNatClampNeg) (w_2 19 ((w_2 22 0).toNatClampNeg))) (fun wn_4 =>
  bns (st wn_4 22 0 ((wn_4 22 0) + 1)) (fun wn_5 =>
  (sX7_passes_kind_2 n_2) (x2_2 + 1) wn_5))
  else
  bns (st w_2 19 ((w_2 22 0).toNatClampNeg) (w_2 2 (x2_2.toNatClampNeg))) (fun wn_7 =>
  bns (st wn_7 22 0 ((wn_7 22 0) + 1)) (fun wn_8 =>
  (sX7_passes_kind_2 n_2) (x2_2 + 1) wn_8))))
def sX7_passes_kind (w : Nat → Nat → Int32) : Nat → Nat → Int32 :=
  sX7_passes_kind_2 13 0 w
def sX7_passes_sheaves_2  : Nat → Int32 → (Nat → Nat → Int32) → Nat → Nat → Int32
  | 0, _, _ => (fun _ _ => 0)
  | n_2 + 1, x2_2, w_2 =>
  (if 12 ≤ x2_2 then
  w_2
  else
  (if (w_2 21 0) = 0 then
  bns (st w_2 3 (x2_2.toNatClampNeg) (w_2 19 ((w_2 22 0).toNatClampNeg))) (fun wn_4 =>
  bns (st wn_4 22 0 ((wn_4 22 0) + 1)) (fun wn_5 =>
  (sX7_passes_sheaves_2 n_2) (x2_2 + 1) wn_5))
  else
  bns (st w_2 19 ((w_2 22 0).toNatClampNeg) (w_2 3 (x2_2.toNatClampNeg))) (fun wn_7 =>
  bns (st wn_7 22 0 ((wn_7 22 0) + 1)) (fun wn_8 =>
  (sX7_passes_sheaves_2 n_2) (x2_2 + 1) wn_8))))
def sX7_passes_sheaves (w : Nat → Nat → Int32) : Nat → Nat → Int32 :=
  sX7_passes_sheaves_2 13 0 w
def sX7_passes_out_2  : Nat → Int32 → (Nat → Nat → Int32) → Nat → Nat → Int32
  | 0, _, _ => (fun _ _ => 0)
  | n_2 + 1, x2_2, w_2 =>
  (if 12 ≤ x2_2 then
  w_2
  else
  (if (w_2 21 0) = 0 then
  bns (st w_2 4 (x2_2.toNatClampNeg) (w_2 19 ((w_2 22 0).toNatClampNeg))) (fun wn_4 =>
  bns (st wn_4 22 0 ((wn_4 22 0) + 1)) (fun wn_5 =>
  (sX7_passes_out_2 n_2) (x2_2 + 1) wn_5))
  else
  bns (st w_2 19 ((w_2 22 0).toNatClampNeg) (w_2 4 (x2_2.toNatClampNeg))) (fun wn_7 =>
  bns (st wn_7 22 0 ((wn_7 22 0) + 1)) (fun wn_8 =>
  (sX7_passes_out_2 n_2) (x2_2 + 1) wn_8))))
def sX7_passes_out (w : Nat → Nat → Int32) : Nat → Nat → Int32 :=
  sX7_passes_out_2 13 0 w
def sX7_passes_lean_2  : Nat → Int32 → (Nat → Nat → Int32) → Nat → Nat → Int32
  | 0, _, _ => (fun _ _ => 0)
  | n_2 + 1, x2_2, w_2 =>
  (if 12 ≤ x2_2 then
  w_2
  else
  (if (w_2 21 0) = 0 then
  bns (st w_2 5 (x2_2.toNatClampNeg) (w_2 19 ((w_2 22 0).toNatClampNeg))) (fun wn_4 =>
  bns (st wn_4 22 0 ((wn_4 22 0) + 1)) (fun wn_5 =>
  (sX7_passes_lean_2 n_2) (x2_2 + 1) wn_5))
  else
  bns (st w_2 19 ((w_2 22 0).toNatClampNeg) (w_2 5 (x2_2.toNatClampNeg))) (fun wn_7 =>
  bns (st wn_7 22 0 ((wn_7 22 0) + 1)) (fun wn_8 =>
  (sX7_passes_lean_2 n_2) (x2_2 + 1) wn_8))))
def sX7_passes_lean (w : Nat → Nat → Int32) : Nat → Nat → Int32 :=
  sX7_passes_lean_2 13 0 w
def sX7_passes_badly_2  : Nat → Int32 → (Nat → Nat → Int32) → Nat → Nat → Int32
  | 0, _, _ => (fun _ _ => 0)
  | n_2 + 1, x2_2, w_2 =>
  (if 12 ≤ x2_2 then
  w_2
  else
  (if (w_2 21 0) = 0 then
  bns (st w_2 6 (x2_2.toNatClampNeg) (w_2 19 ((w_2 22 0).toNatClampNeg))) (fun wn_4 =>
  bns (st wn_4 22 0 ((wn_4 22 0) + 1)) (fun wn_5 =>
  (sX7_passes_badly_2 n_2) (x2_2 + 1) wn_5))
  else
  bns (st w_2 19 ((w_2 22 0).toNatClampNeg) (w_2 6 (x2_2.toNatClampNeg))) (fun wn_7 =>
  bns (st wn_7 22 0 ((wn_7 22 0) + 1)) (fun wn_8 =>
  (sX7_passes_badly_2 n_2) (x2_2 + 1) wn_8))))
def sX7_passes_badly (w : Nat → Nat → Int32) : Nat → Nat → Int32 :=
  sX7_passes_badly_2 13 0 w
def sX7_passes_sort_2  : Nat → Int32 → (Nat → Nat → Int32) → Nat → Nat → Int32
  | 0, _, _ => (fun _ _ => 0)
  | n_2 + 1, x2_2, w_2 =>
  (if 12 ≤ x2_2 then
  w_2
  else
  (if (w_2 21 0) = 0 then
  bns (st w_2 7 (x2_2.toNatClampNeg) (w_2 19 ((w_2 22 0).toNatClampNeg))) (fun wn_4 =>
  bns (st wn_4 22 0 ((wn_4 22 0) + 1)) (fun wn_5 =>
  (sX7_passes_sort_2 n_2) (x2_2 + 1) wn_5))
  else
  bns (st w_2 19 ((w_2 22 0).toNatClampNeg) (w_2 7 (x2_2.toNatClampNeg))) (fun wn_7 =>
  bns (st wn_7 22 0 ((wn_7 22 0) + 1)) (fun wn_8 =>
  (sX7_passes_sort_2 n_2) (x2_2 + 1) wn_8))))
def sX7_passes_sort (w : Nat → Nat → Int32) : Nat → Nat → Int32 :=
  sX7_passes_sort_2 13 0 w
def sX7_passes_figure_2  : Nat → Int32 → (Nat → Nat → Int32) → Nat → Nat → Int32
  | 0, _, _ => (fun _ _ => 0)
  | n_2 + 1, x2_2, w_2 =>
  (if 12 ≤ x2_2 then
  w_2
  else
  (if (w_2 21 0) = 0 then
  bns (st w_2 8 (x2_2.toNatClampNeg) (w_2 19 ((w_2 22 0).toNatClampNeg))) (fun wn_4 =>
  bns (st wn_4 22 0 ((wn_4 22 0) + 1)) (fun wn_5 =>
  (sX7_passes_figure_2 n_2) (x2_2 + 1) wn_5))
  else
  bns (st w_2 19 ((w_2 22 0).toNatClampNeg) (w_2 8 (x2_2.toNatClampNeg))) (fun wn_7 =>
  bns (st wn_7 22 0 ((wn_7 22 0) + 1)) (fun wn_8 =>
  (sX7_passes_figure_2 n_2) (x2_2 + 1) wn_8))))
def sX7_passes_figure (w : Nat → Nat → Int32) : Nat → Nat → Int32 :=
  sX7_passes_figure_2 13 0 w
def sX7_passes_lasting_2  : Nat → Int32 → (Nat → Nat → Int32) → Nat → Nat → Int32
  | 0, _, _ => (fun _ _ => 0)
  | n_2 + 1, x2_2, w_2 =>
  (if 12 ≤ x2_2 then
  w_2
  else
  (if (w_2 21 0) = 0 then
  bns (st w_2 9 (x2_2.toNatClampNeg) (w_2 19 ((w_2 22 0).toNatClampNeg))) (fun wn_4 =>
  bns (st wn_4 22 0 ((wn_4 22 0) + 1)) (fun wn_5 =>
  (sX7_passes_lasting_2 n_2) (x2_2 + 1) wn_5))
  else
  bns (st w_2 19 ((w_2 22 0).toNatClampNeg) (w_2 9 (x2_2.toNatClampNeg))) (fun wn_7 =>
  bns (st wn_7 22 0 ((wn_7 22 0) + 1)) (fun wn_8 =>
  (sX7_passes_lasting_2 n_2) (x2_2 + 1) wn_8))))
def sX7_passes_lasting (w : Nat → Nat → Int32) : Nat → Nat → Int32 :=
  sX7_passes_lasting_2 13 0 w
def sX7_passes_pieces_2  : Nat → Int32 → (Nat → Nat → Int32) → Nat → Nat → Int32
  | 0, _, _ => (fun _ _ => 0)
  | n_2 + 1, x2_2, w_2 =>
  (if 2 ≤ x2_2 then
  w_2
  else
  (if (w_2 21 0) = 0 then
  bns (st w_2 10 (x2_2.toNatClampNeg) (w_2 19 ((w_2 22 0).toNatClampNeg))) (fun wn_4 =>
  bns (st wn_4 22 0 ((wn_4 22 0) + 1)) (fun wn_5 =>
  (sX7_passes_pieces_2 n_2) (x2_2 + 1) wn_5))
  else
  bns (st w_2 19 ((w_2 22 0).toNatClampNeg) (w_2 10 (x2_2.toNatClampNeg))) (fun wn_7 =>
  bns (st wn_7 22 0 ((wn_7 22 0) + 1)) (fun wn_8 =>
  (sX7_passes_pieces_2 n_2) (x2_2 + 1) wn_8))))
def sX7_passes_pieces (w : Nat → Nat → Int32) : Nat → Nat → Int32 :=
  sX7_passes_pieces_2 3 0 w
def sX7_passOne (w : Nat → Nat → Int32) (a1 : Int32) : Int32 × (Nat → Nat → Int32) :=
  (if (w 21 0) = 0 then
  bns (st w 22 0 ((w 22 0) + 1)) (fun wn_3 =>
  (w 19 ((w 22 0).toNatClampNeg), wn_3))
  else
  bns (st w 19 ((w 22 0).toNatClampNeg) a1) (fun wn_4 =>
  bns (st wn_4 22 0 ((wn_4 22 0) + 1)) (fun wn_5 =>
  (a1, wn_5))))
def sX7_passesAll (w : Nat → Nat → Int32) (a1 : Int32) (a2 : Int32) : Nat → Nat → Int32 :=
  bns (st w 22 0 (125 * a1)) (fun wn_1 =>
  bns (st wn_1 21 0 a2) (fun wn_2 =>
  bns (sX7_passes_setting wn_2) (fun wn_3 =>
  bns (sX7_passes_kind wn_3) (fun wn_4 =>
  bns (sX7_passes_sheaves wn_4) (fun wn_5 =>
  bns (sX7_passes_out wn_5) (fun wn_6 =>
  bns (sX7_passes_lean wn_6) (fun wn_7 =>
  bns (sX7_passes_badly wn_7) (fun wn_8 =>
  bns (sX7_passes_sort wn_8) (fun wn_9 =>
  bns (sX7_passes_figure wn_9) (fun wn_10 =>
  bns (sX7_passes_lasting wn_10) (fun wn_11 =>
  bns (sX7_passes_pieces wn_11) (fun wn_12 =>
  bnd (sX7_passOne wn_12 (wn_12 11 0)) (fun rn_13 wn_13 =>
  bns (st wn_13 11 0 rn_13) (fun wn_14 =>
  wn_14))))))))))))))
def sX7_load_86  : Nat → Int32 → (Nat → Nat → Int32) → Int32 × (Nat → Nat → Int32)
  | 0, _, _ => (0, (fun _ _ => 0))
  | n_86 + 1, x2_86, w_86 =>
  (if (w_86 18 0) ≤ x2_86 then
  (w_86 18 0, w_86)
  else
  bnd (sX7_comes w_86 x2_86) (fun rn_21 wn_21 =>
  (if rn_21 = 0 then
  bns (sX7_passesAll wn_21 1 0) (fun wn_23 =>
  ((-2000) - (wn_23 14 (x2_86.toNatClampNeg)), wn_23))
  else
  (sX7_load_86 n_86) (x2_86 + 1) wn_21)))
def sX7_load_12  : Nat → Int32 → (Nat → Nat → Int32) → Int32 × (Nat → Nat → Int32)
  | 0, _, _ => (0, (fun _ _ => 0))
  | n_12 + 1, x1_12, w_12 =>
  (if x1_12 = 0 then
  bns (st w_12 16 0 0) (fun wn_4 =>
  ((-1000) - (wn_4 17 0), wn_4))
  else
  (if (w_12 17 0) < (w_12 16 0) then
  bnd (sX7_statement w_12) (fun rn_9 wn_9 =>
  (if rn_9 = 0 then
  bns (st wn_9 18 0 ((wn_9 18 0) + 0)) (fun wn_12 =>
  (sX7_load_12 n_12) rn_9 wn_12)
  else
  bns (st wn_9 18 0 ((wn_9 18 0) + 1)) (fun wn_13 =>
  (sX7_load_12 n_12) rn_9 wn_13)))
  else
  (if (w_12 18 0) = 0 then
  bnd (sX7_statement w_12) (fun rn_25 wn_25 =>
  (if rn_25 = 0 then
  bns (st wn_25 18 0 ((wn_25 18 0) + 0)) (fun wn_28 =>
  (sX7_load_12 n_12) rn_25 wn_28)
  else
  bns (st wn_25 18 0 ((wn_25 18 0) + 1)) (fun wn_29 =>
  (sX7_load_12 n_12) rn_25 wn_29)))
  else
  bns (st w_12 16 0 0) (fun wn_16 =>
  bns (sX7_passesAll wn_16 1 1) (fun wn_17 =>
  sX7_load_86 49 0 wn_17)))))
def sX7_load (w : Nat → Nat → Int32) : Int32 × (Nat → Nat → Int32) :=
  bns (st w 17 0 0) (fun wn_1 =>
  bns (st wn_1 18 0 0) (fun wn_2 =>
  sX7_load_12 196 1 wn_2))
def sX7_image (w : Nat → Nat → Int32) : Int32 × (Nat → Nat → Int32) :=
  bns (st w 20 0 1) (fun wn_1 =>
  bns (sX7_passesAll wn_1 0 1) (fun wn_2 =>
  (wn_2 11 0, wn_2)))
def sX7_on (w : Nat → Nat → Int32) : Int32 × (Nat → Nat → Int32) :=
  (if (w 20 0) = 0 then
  bnd (sX7_no w (-3)) (fun rn_4 wn_4 =>
  (rn_4, wn_4))
  else
  bns (sX7_passesAll w 0 0) (fun wn_2 =>
  (wn_2 11 0, wn_2)))
def sX7_off (w : Nat → Nat → Int32) : Int32 × (Nat → Nat → Int32) :=
  (if (w 11 0) = 0 then
  bnd (sX7_no w (-3)) (fun rn_6 wn_6 =>
  (rn_6, wn_6))
  else
  bns (st w 11 0 ((w 11 0) - 1)) (fun wn_4 =>
  (wn_4 11 0, wn_4)))
def sX7_out (w : Nat → Nat → Int32) (a1 : Int32) (a2 : Int32) : Int32 × (Nat → Nat → Int32) :=
  (if (sX7_isLayer w a1) = 0 then
  bnd (sX7_no w (-1)) (fun rn_8 wn_8 =>
  (rn_8, wn_8))
  else
  (if (sX7_bound a2 0 9) = 0 then
  bns (st w 4 (a1.toNatClampNeg) a2) (fun wn_6 =>
  (w 4 (a1.toNatClampNeg), wn_6))
  else
  bnd (sX7_no w (sX7_bound a2 0 9)) (fun rn_7 wn_7 =>
  (rn_7, wn_7))))
def sX7_set (w : Nat → Nat → Int32) (a1 : Int32) (a2 : Int32) : Int32 × (Nat → Nat → Int32) :=
  (if (sX7_isIn a1 0 3) = 0 then
  bnd (sX7_no w (-2)) (fun rn_23 wn_23 =>
  (rn_23, wn_23))
  else
  (if a1 = 1 then
  (if (sX7_bound a2 1 (sX7_mostOf a1)) = 0 then
  bns (st w 1 (a1.toNatClampNeg) a2) (fun wn_8 =>
  (w 1 (a1.toNatClampNeg), wn_8))
  else
  bnd (sX7_no w (sX7_bound a2 1 (sX7_mostOf a1))) (fun rn_9 wn_9 =>
  (rn_9, wn_9)))
  else
  (if a1 = 2 then
  (if (sX7_bound a2 1 (sX7_mostOf a1)) = 0 then
  bns (st w 1 (a1.toNatClampNeg) a2) (fun wn_21 =>
  (w 1 (a1.toNatClampNeg), wn_21))
  else
  bnd (sX7_no w (sX7_bound a2 1 (sX7_mostOf a1))) (fun rn_22 wn_22 =>
  (rn_22, wn_22)))
  else
  (if (sX7_bound a2 0 (sX7_mostOf a1)) = 0 then
  bns (st w 1 (a1.toNatClampNeg) a2) (fun wn_15 =>
  (w 1 (a1.toNatClampNeg), wn_15))
  else
  bnd (sX7_no w (sX7_bound a2 0 (sX7_mostOf a1))) (fun rn_16 wn_16 =>
  (rn_16, wn_16))))))
def sX7_layer (w : Nat → Nat → Int32) (a1 : Int32) (a2 : Int32) : Int32 × (Nat → Nat → Int32) :=
  (if (sX7_isLayer w a1) = 0 then
  bnd (sX7_lower w (-1)) (fun rn_20 wn_20 =>
  (rn_20, wn_20))
  else
  (if a2 = 0 then
  (w 2 (a1.toNatClampNeg), w)
  else
  (if a2 = 1 then
  (w 3 (a1.toNatClampNeg), w)
  else
  (if a2 = 2 then
  (w 4 (a1.toNatClampNeg), w)
  else
  (if a2 = 3 then
  (w 5 (a1.toNatClampNeg), w)
  else
  (if a2 = 4 then
  ((sX7_weightOf w a1), w)
  else
  (if a2 = 5 then
  ((sX7_bindingOf w a1), w)
  else
  (if a2 = 6 then
  ((sX7_thickOf w a1), w)
  else
  (if a2 = 7 then
  ((sX7_loadOf w a1), w)
  else
  bnd (sX7_lower w (-2)) (fun rn_3 wn_3 =>
  (rn_3, wn_3)))))))))))
def sX7_piece (w : Nat → Nat → Int32) (a1 : Int32) (a2 : Int32) (a3 : Int32) : Int32 × (Nat → Nat → Int32) :=
  (if (sX7_isPiece w a1 a2) = 0 then
  bnd (sX7_no w (-1)) (fun rn_10 wn_10 =>
  (rn_10, wn_10))
  else
  (if a3 = 0 then
  (w 7 (((6 * a1) + a2).toNatClampNeg), w)
  else
  (if a3 = 1 then
  (w 8 (((6 * a1) + a2).toNatClampNeg), w)
  else
  (if a3 = 2 then
  (w 9 (((6 * a1) + a2).toNatClampNeg), w)
  else
  bnd (sX7_no w (-2)) (fun rn_3 wn_3 =>
  (rn_3, wn_3))))))
def sX7_shift (w : Nat → Nat → Int32) (a1 : Int32) (a2 : Int32) (a3 : Int32) : Int32 × (Nat → Nat → Int32) :=
  (if (sX7_isPiece w a1 a2) = 0 then
  bnd (sX7_no w (-1)) (fun rn_3 wn_3 =>
  (rn_3, wn_3))
  else
  (if (sX7_isLayer w a3) = 0 then
  bnd (sX7_no w (-1)) (fun rn_6 wn_6 =>
  (rn_6, wn_6))
  else
  ((sX7_shiftAt w ((6 * a1) + a2) a3), w)))
def sX7_findSlip_52 (a1 : Int32) (wn_2 : Nat → Nat → Int32) (x2_14 : Int32) : Nat → (Nat → Nat → Int32) → Nat → Nat → Int32
  | 0, _ => (fun _ _ => 0)
  | n_52 + 1, w_52 =>
  (if (((sX7_fellBits wn_2 ((6 * a1) + x2_14)) >>> ((w_52 24 0) &&& 31)) &&& 1) = 0 then
  bns (st w_52 24 0 ((w_52 24 0) + 1)) (fun wn_10 =>
  (sX7_findSlip_52 a1 wn_2 x2_14 n_52) wn_10)
  else
  w_52)
def sX7_findSlip_14 (a1 : Int32) (wn_2 : Nat → Nat → Int32) : Nat → Int32 → Nat → Nat → Int32
  | 0, _ => (fun _ _ => 0)
  | n_14 + 1, x2_14 =>
  (if (wn_2 10 (a1.toNatClampNeg)) ≤ x2_14 then
  wn_2
  else
  (if (sX7_fellBits wn_2 ((6 * a1) + x2_14)) = 0 then
  (sX7_findSlip_14 a1 wn_2 n_14) (x2_14 + 1)
  else
  bns (st wn_2 23 0 x2_14) (fun wn_7 =>
  bns (st wn_7 24 0 0) (fun wn_8 =>
  sX7_findSlip_52 a1 wn_2 x2_14 33 wn_8))))
def sX7_findSlip (w : Nat → Nat → Int32) (a1 : Int32) : Nat → Nat → Int32 :=
  bns (st w 23 0 (-9)) (fun wn_1 =>
  bns (st wn_1 24 0 (-9)) (fun wn_2 =>
  sX7_findSlip_14 a1 wn_2 7 0))
def sX7_doesHold (w : Nat → Nat → Int32) (a1 : Int32) : Int32 × (Nat → Nat → Int32) :=
  bns (sX7_findSlip w a1) (fun wn_1 =>
  (if 0 ≤ (wn_1 23 0) then
  (0, wn_1)
  else
  (1, wn_1)))
def sX7_slips (w : Nat → Nat → Int32) (a1 : Int32) (a2 : Int32) : Int32 × (Nat → Nat → Int32) :=
  (if (sX7_isWay a1) = 0 then
  bnd (sX7_no w (-1)) (fun rn_8 wn_8 =>
  (rn_8, wn_8))
  else
  (if (sX7_isIn a2 0 1) = 0 then
  bnd (sX7_no w (-2)) (fun rn_7 wn_7 =>
  (rn_7, wn_7))
  else
  bns (sX7_findSlip w a1) (fun wn_5 =>
  (if a2 = 0 then
  (wn_5 23 0, wn_5)
  else
  (wn_5 24 0, wn_5)))))
def sX7_margin (w : Nat → Nat → Int32) (a1 : Int32) : Int32 × (Nat → Nat → Int32) :=
  (if (sX7_isWay a1) = 0 then
  bnd (sX7_lower w (-1)) (fun rn_3 wn_3 =>
  (rn_3, wn_3))
  else
  ((sX7_marginOf w a1), w))
def sX7_high_25 (w : Nat → Nat → Int32) (a1 : Int32) : Nat → Int32 → (Nat → Nat → Int32) → Int32 × (Nat → Nat → Int32)
  | 0, _, _ => (0, (fun _ _ => 0))
  | n_25 + 1, x3_25, w_25 =>
  (if (w 11 0) < (w_25 11 0) then
  bns (st w_25 11 0 (w 11 0)) (fun wn_7 =>
  (x3_25, wn_7))
  else
  bnd (sX7_doesHold w_25 a1) (fun rn_8 wn_8 =>
  (if rn_8 = 0 then
  bns (st wn_8 11 0 ((wn_8 11 0) + 1)) (fun wn_11 =>
  (sX7_high_25 w a1 n_25) x3_25 wn_11)
  else
  bns (st wn_8 11 0 ((wn_8 11 0) + 1)) (fun wn_14 =>
  (sX7_high_25 w a1 n_25) (wn_8 11 0) wn_14))))
def sX7_high (w : Nat → Nat → Int32) (a1 : Int32) : Int32 × (Nat → Nat → Int32) :=
  (if (sX7_isWay a1) = 0 then
  bnd (sX7_no w (-1)) (fun rn_15 wn_15 =>
  (rn_15, wn_15))
  else
  bns (st w 11 0 1) (fun wn_4 =>
  sX7_high_25 w a1 13 0 wn_4))
def sX7_more (w : Nat → Nat → Int32) (a1 : Int32) : Int32 × (Nat → Nat → Int32) :=
  (if (sX7_isWay a1) = 0 then
  bnd (sX7_no w (-1)) (fun rn_28 wn_28 =>
  (rn_28, wn_28))
  else
  (if (w 11 0) = 0 then
  bnd (sX7_no w (-3)) (fun rn_27 wn_27 =>
  (rn_27, wn_27))
  else
  bns (st w 2 ((w 11 0).toNatClampNeg) (w 2 (((w 11 0) - 1).toNatClampNeg))) (fun wn_8 =>
  bns (st wn_8 3 ((wn_8 11 0).toNatClampNeg) (wn_8 3 (((wn_8 11 0) - 1).toNatClampNeg))) (fun wn_12 =>
  bns (st wn_12 4 ((wn_12 11 0).toNatClampNeg) (wn_12 4 (((wn_12 11 0) - 1).toNatClampNeg))) (fun wn_16 =>
  bns (st wn_16 5 ((wn_16 11 0).toNatClampNeg) (wn_16 5 (((wn_16 11 0) - 1).toNatClampNeg))) (fun wn_20 =>
  bns (st wn_20 11 0 ((wn_20 11 0) + 1)) (fun wn_22 =>
  bnd (sX7_doesHold wn_22 a1) (fun rn_23 wn_23 =>
  bns (st wn_23 11 0 ((wn_23 11 0) - 1)) (fun wn_25 =>
  (if rn_23 = 0 then
  (0, wn_25)
  else
  (1, wn_25)))))))))))
def sX7_farOut_36 (w : Nat → Nat → Int32) (a1 : Int32) (a2 : Int32) : Nat → Int32 → Int32 → (Nat → Nat → Int32) → Int32 × (Nat → Nat → Int32)
  | 0, _, _, _ => (0, (fun _ _ => 0))
  | n_36 + 1, x4_36, x5_36, w_36 =>
  (if x5_36 < 0 then
  bns (st w_36 4 (a2.toNatClampNeg) (w 4 (a2.toNatClampNeg))) (fun wn_8 =>
  (x4_36, wn_8))
  else
  (if 0 ≤ x4_36 then
  bns (st w_36 4 (a2.toNatClampNeg) (w 4 (a2.toNatClampNeg))) (fun wn_10 =>
  (x4_36, wn_10))
  else
  bns (st w_36 4 (a2.toNatClampNeg) x5_36) (fun wn_11 =>
  bnd (sX7_doesHold wn_11 a1) (fun rn_12 wn_12 =>
  (if rn_12 = 0 then
  bns (x5_36 + (-1)) (fun xn_14 =>
  (sX7_farOut_36 w a1 a2 n_36) ((-9)) xn_14 wn_12)
  else
  bns (x5_36 + (-1)) (fun xn_15 =>
  (sX7_farOut_36 w a1 a2 n_36) x5_36 xn_15 wn_12))))))
def sX7_farOut (w : Nat → Nat → Int32) (a1 : Int32) (a2 : Int32) : Int32 × (Nat → Nat → Int32) :=
  (if (sX7_isWay a1) = 0 then
  bnd (sX7_no w (-1)) (fun rn_3 wn_3 =>
  (rn_3, wn_3))
  else
  (if (sX7_isLayer w a2) = 0 then
  bnd (sX7_no w (-1)) (fun rn_16 wn_16 =>
  (rn_16, wn_16))
  else
  sX7_farOut_36 w a1 a2 11 ((-9)) 9 w))
def sX7_marginBy_8 (a1 : Int32) (a2 : Int32) : Nat → Int32 → (Nat → Nat → Int32) → Int32 × (Nat → Nat → Int32)
  | 0, _, _ => (0, (fun _ _ => 0))
  | n_8 + 1, x3_8, w_8 =>
  (if (w_8 11 0) ≤ x3_8 then
  bns (sX7_passesAll w_8 1 0) (fun wn_5 =>
  ((sX7_marginOf w_8 a1), wn_5))
  else
  bns (st w_8 5 (x3_8.toNatClampNeg) (sX7_heldLean ((w_8 5 (x3_8.toNatClampNeg)) + a2))) (fun wn_8 =>
  (sX7_marginBy_8 a1 a2 n_8) (x3_8 + 1) wn_8))
def sX7_marginBy (w : Nat → Nat → Int32) (a1 : Int32) (a2 : Int32) : Int32 × (Nat → Nat → Int32) :=
  bns (sX7_passesAll w 1 1) (fun wn_1 =>
  sX7_marginBy_8 a1 a2 13 0 wn_1)
def sX7_leaning_19 (a1 : Int32) : Nat → Int32 → Int32 → (Nat → Nat → Int32) → Int32 × (Nat → Nat → Int32)
  | 0, _, _, _ => (0, (fun _ _ => 0))
  | n_19 + 1, x2_19, x3_19, w_19 =>
  (if 6 ≤ x3_19 then
  (x2_19, w_19)
  else
  bnd (sX7_marginBy w_19 a1 x3_19) (fun rn_4 wn_4 =>
  bnd (sX7_marginBy wn_4 a1 x2_19) (fun rn_5 wn_5 =>
  (if rn_4 ≤ rn_5 then
  (sX7_leaning_19 a1 n_19) x2_19 (x3_19 + 1) wn_5
  else
  (sX7_leaning_19 a1 n_19) x3_19 (x3_19 + 1) wn_5))))
def sX7_leaning (w : Nat → Nat → Int32) (a1 : Int32) : Int32 × (Nat → Nat → Int32) :=
  (if (sX7_isWay a1) = 0 then
  bnd (sX7_lower w (-1)) (fun rn_7 wn_7 =>
  (rn_7, wn_7))
  else
  sX7_leaning_19 a1 11 ((-5)) ((-4)) w)
def sX7_enough_26 (w : Nat → Nat → Int32) (a1 : Int32) : Nat → Int32 → Int32 → (Nat → Nat → Int32) → Int32 × (Nat → Nat → Int32)
  | 0, _, _, _ => (0, (fun _ _ => 0))
  | n_26 + 1, x3_26, x4_26, w_26 =>
  (if 6 ≤ x4_26 then
  bns (st w_26 1 0 (w 1 0)) (fun wn_5 =>
  (x3_26, wn_5))
  else
  (if 0 ≤ x3_26 then
  bns (st w_26 1 0 (w 1 0)) (fun wn_7 =>
  (x3_26, wn_7))
  else
  bns (st w_26 1 0 x4_26) (fun wn_8 =>
  bnd (sX7_doesHold wn_8 a1) (fun rn_9 wn_9 =>
  (if rn_9 = 0 then
  (sX7_enough_26 w a1 n_26) ((-9)) (x4_26 + 1) wn_9
  else
  (sX7_enough_26 w a1 n_26) x4_26 (x4_26 + 1) wn_9)))))
def sX7_enough (w : Nat → Nat → Int32) (a1 : Int32) : Int32 × (Nat → Nat → Int32) :=
  (if (sX7_isWay a1) = 0 then
  bnd (sX7_no w (-1)) (fun rn_11 wn_11 =>
  (rn_11, wn_11))
  else
  sX7_enough_26 w a1 7 ((-9)) 0 w)
def sX7_homeBy (w : Nat → Nat → Int32) (a1 : Int32) : Int32 × (Nat → Nat → Int32) :=
  bnd (sX7_doesHold w a1) (fun rn_1 wn_1 =>
  (if rn_1 = 0 then
  ((-9), wn_1)
  else
  ((sX7_minutesOf wn_1 a1), wn_1)))
def sX7_home (w : Nat → Nat → Int32) (a1 : Int32) : Int32 × (Nat → Nat → Int32) :=
  (if (sX7_isWay a1) = 0 then
  bnd (sX7_no w (-1)) (fun rn_3 wn_3 =>
  (rn_3, wn_3))
  else
  bnd (sX7_homeBy w a1) (fun rn_4 wn_4 =>
  (rn_4, wn_4)))
def sX7_which (w : Nat → Nat → Int32) : Int32 × (Nat → Nat → Int32) :=
  bnd (sX7_homeBy w 0) (fun rn_1 wn_1 =>
  bnd (sX7_homeBy wn_1 1) (fun rn_2 wn_2 =>
  (if 0 ≤ rn_1 then
  (if rn_1 < 0 then
  (1, wn_2)
  else
  (if rn_2 < 0 then
  (0, wn_2)
  else
  (if rn_1 ≤ rn_2 then
  (0, wn_2)
  else
  (1, wn_2))))
  else
  (if 0 ≤ rn_2 then
  (if rn_1 < 0 then
  (1, wn_2)
  else
  (if rn_2 < 0 then
  (0, wn_2)
  else
  (if rn_1 ≤ rn_2 then
  (0, wn_2)
  else
  (1, wn_2))))
  else
  ((-9), wn_2)))))
def sX7_pitching (w : Nat → Nat → Int32) (a1 : Int32) : Int32 × (Nat → Nat → Int32) :=
  (if (sX7_bound a1 1 9) = 0 then
  ((sX7_pitchMinutes w a1), w)
  else
  bnd (sX7_no w (sX7_bound a1 1 9)) (fun rn_4 wn_4 =>
  (rn_4, wn_4)))
def sX7_holdsPitched_8 (a1 : Int32) (a2 : Int32) : Nat → Int32 → (Nat → Nat → Int32) → Int32 × (Nat → Nat → Int32)
  | 0, _, _ => (0, (fun _ _ => 0))
  | n_8 + 1, x3_8, w_8 =>
  (if (w_8 11 0) ≤ x3_8 then
  bnd (sX7_doesHold w_8 a1) (fun rn_4 wn_4 =>
  bns (sX7_passesAll wn_4 1 0) (fun wn_5 =>
  (rn_4, wn_5)))
  else
  (if a2 ≤ (w_8 1 1) then
  bnd (sX7_doesHold w_8 a1) (fun rn_8 wn_8 =>
  bns (sX7_passesAll wn_8 1 0) (fun wn_9 =>
  (rn_8, wn_9)))
  else
  bns (st w_8 6 (x3_8.toNatClampNeg) (((w_8 3 (x3_8.toNatClampNeg)) * (a2 - (w_8 1 1))) / 9)) (fun wn_12 =>
  (sX7_holdsPitched_8 a1 a2 n_8) (x3_8 + 1) wn_12)))
def sX7_holdsPitched (w : Nat → Nat → Int32) (a1 : Int32) (a2 : Int32) : Int32 × (Nat → Nat → Int32) :=
  bns (sX7_passesAll w 1 1) (fun wn_1 =>
  sX7_holdsPitched_8 a1 a2 13 0 wn_1)
def sX7_quick_18 (a1 : Int32) : Nat → Int32 → Int32 → (Nat → Nat → Int32) → Int32 × (Nat → Nat → Int32)
  | 0, _, _, _ => (0, (fun _ _ => 0))
  | n_18 + 1, x2_18, x3_18, w_18 =>
  (if 10 ≤ x3_18 then
  (x2_18, w_18)
  else
  bnd (sX7_holdsPitched w_18 a1 x3_18) (fun rn_4 wn_4 =>
  (if rn_4 = 0 then
  (sX7_quick_18 a1 n_18) x2_18 (x3_18 + 1) wn_4
  else
  (if x2_18 < 0 then
  (sX7_quick_18 a1 n_18) x3_18 (x3_18 + 1) wn_4
  else
  (if (sX7_pitchMinutes wn_4 x2_18) ≤ (sX7_pitchMinutes wn_4 x3_18) then
  (sX7_quick_18 a1 n_18) x2_18 (x3_18 + 1) wn_4
  else
  (sX7_quick_18 a1 n_18) x3_18 (x3_18 + 1) wn_4)))))
def sX7_quick (w : Nat → Nat → Int32) (a1 : Int32) : Int32 × (Nat → Nat → Int32) :=
  (if (sX7_isWay a1) = 0 then
  bnd (sX7_no w (-1)) (fun rn_10 wn_10 =>
  (rn_10, wn_10))
  else
  sX7_quick_18 a1 10 ((-9)) 1 w)
def sX7_homeSheaves_54 (w : Nat → Nat → Int32) (a1 : Int32) (a2 : Int32) (a3 : Int32) (x6_48 : Int32) (x7_48 : Int32) (w_48 : Nat → Nat → Int32) (rec_48 : (Int32 → Int32 → (Nat → Nat → Int32) → (Int32 × (Nat → Nat → Int32)))) : Nat → Int32 → Int32 → Int32 × (Nat → Nat → Int32)
  | 0, _, _ => (0, (fun _ _ => 0))
  | n_54 + 1, x8_54, x9_54 =>
  (if a2 ≤ x9_54 then
  (if (w_48 25 (x8_54.toNatClampNeg)) ≤ x6_48 then
  (if (((x6_48 + (sX7_pitchMinutes w (w 1 2))) + (sX7_minutesOf w a1)) + (sX7_pitchMinutes w (w 1 2))) ≤ a3 then
  bns (st w_48 25 (x8_54.toNatClampNeg) ((((x6_48 + (sX7_pitchMinutes w (w 1 2))) + (sX7_minutesOf w a1)) + (sX7_pitchMinutes w (w 1 2))) + (sX7_minutesOf w a1))) (fun wn_10 =>
  rec_48 (x6_48 + (sX7_pitchMinutes w (w 1 2))) (x7_48 + (sX7_allSheaves w_48)) wn_10)
  else
  (if (w_48 1 3) ≤ x7_48 then
  (w_48 1 3, w_48)
  else
  (x7_48, w_48)))
  else
  (if ((((w_48 25 (x8_54.toNatClampNeg)) + (sX7_pitchMinutes w (w 1 2))) + (sX7_minutesOf w a1)) + (sX7_pitchMinutes w (w 1 2))) ≤ a3 then
  bns (st w_48 25 (x8_54.toNatClampNeg) (((((w_48 25 (x8_54.toNatClampNeg)) + (sX7_pitchMinutes w (w 1 2))) + (sX7_minutesOf w a1)) + (sX7_pitchMinutes w (w 1 2))) + (sX7_minutesOf w a1))) (fun wn_17 =>
  rec_48 ((w_48 25 (x8_54.toNatClampNeg)) + (sX7_pitchMinutes w (w 1 2))) (x7_48 + (sX7_allSheaves w_48)) wn_17)
  else
  (if (w_48 1 3) ≤ x7_48 then
  (w_48 1 3, w_48)
  else
  (x7_48, w_48))))
  else
  (if (w_48 25 (x8_54.toNatClampNeg)) ≤ (w_48 25 (x9_54.toNatClampNeg)) then
  (sX7_homeSheaves_54 w a1 a2 a3 x6_48 x7_48 w_48 rec_48 n_54) x8_54 (x9_54 + 1)
  else
  (sX7_homeSheaves_54 w a1 a2 a3 x6_48 x7_48 w_48 rec_48 n_54) x9_54 (x9_54 + 1)))
def sX7_homeSheaves_48 (w : Nat → Nat → Int32) (a1 : Int32) (a2 : Int32) (a3 : Int32) : Nat → Int32 → Int32 → (Nat → Nat → Int32) → Int32 × (Nat → Nat → Int32)
  | 0, _, _, _ => (0, (fun _ _ => 0))
  | n_48 + 1, x6_48, x7_48, w_48 =>
  sX7_homeSheaves_54 w a1 a2 a3 x6_48 x7_48 w_48 (sX7_homeSheaves_48 w a1 a2 a3 n_48) 4 0 1
def sX7_homeSheaves_28 (w : Nat → Nat → Int32) (a1 : Int32) (a2 : Int32) (a3 : Int32) : Nat → Int32 → (Nat → Nat → Int32) → Int32 × (Nat → Nat → Int32)
  | 0, _, _ => (0, (fun _ _ => 0))
  | n_28 + 1, x8_28, w_28 =>
  (if 4 ≤ x8_28 then
  sX7_homeSheaves_48 w a1 a2 a3 1000 0 0 w_28
  else
  bns (st w_28 25 (x8_28.toNatClampNeg) 0) (fun wn_24 =>
  (sX7_homeSheaves_28 w a1 a2 a3 n_28) (x8_28 + 1) wn_24))
def sX7_homeSheaves (w : Nat → Nat → Int32) (a1 : Int32) (a2 : Int32) (a3 : Int32) : Int32 × (Nat → Nat → Int32) :=
  sX7_homeSheaves_28 w a1 a2 a3 5 0 w
def sX7_notRounds (w : Nat → Nat → Int32) (a1 : Int32) (a2 : Int32) (a3 : Int32) (a4 : Int32) : Int32 × (Nat → Nat → Int32) :=
  (if (sX7_isWay a1) = 0 then
  ((-1), w)
  else
  (if a2 < 1 then
  ((-4), w)
  else
  (if 0 ≤ a3 then
  (if a4 < a2 then
  ((-6), w)
  else
  (if a3 ≤ 999 then
  (if (w 11 0) = 0 then
  ((-3), w)
  else
  bnd (sX7_doesHold w a1) (fun rn_9 wn_9 =>
  (if rn_9 = 0 then
  ((-3), wn_9)
  else
  (0, wn_9))))
  else
  ((-6), w)))
  else
  ((-4), w))))
def sX7_rounds (w : Nat → Nat → Int32) (a1 : Int32) (a2 : Int32) (a3 : Int32) : Int32 × (Nat → Nat → Int32) :=
  bnd (sX7_notRounds w a1 a2 a3 4) (fun rn_1 wn_1 =>
  (if rn_1 = 0 then
  bnd (sX7_homeSheaves wn_1 a1 a2 a3) (fun rn_3 wn_3 =>
  (rn_3, wn_3))
  else
  bnd (sX7_no wn_1 rn_1) (fun rn_4 wn_4 =>
  (rn_4, wn_4))))
def sX7_worth (w : Nat → Nat → Int32) (a1 : Int32) (a2 : Int32) (a3 : Int32) : Int32 × (Nat → Nat → Int32) :=
  bnd (sX7_notRounds w a1 a2 a3 3) (fun rn_1 wn_1 =>
  (if rn_1 = 0 then
  bnd (sX7_homeSheaves wn_1 a1 (a2 + 1) a3) (fun rn_3 wn_3 =>
  bnd (sX7_homeSheaves wn_3 a1 a2 a3) (fun rn_4 wn_4 =>
  (rn_3 - rn_4, wn_4)))
  else
  bnd (sX7_lower wn_1 rn_1) (fun rn_5 wn_5 =>
  (rn_5, wn_5))))
def sX7_divisor_6  : Nat → Int64 → Int64 → Int64
  | 0, _, _ => 0
  | n_6 + 1, x4_6, x6_6 =>
  (if (lg_cmp x6_6 0) = 0 then
  x4_6
  else
  (sX7_divisor_6 n_6) x6_6 (x4_6 - x4_6 / x6_6 * x6_6))
def sX7_divisor (a1 : Int64) (a2 : Int64) : Int64 :=
  sX7_divisor_6 (a2.toInt.toNat + 1) a1 a2
def sX7_thunder_59 (w : Nat → Nat → Int32) (a1 : Int32) (a2 : Int32) (a3 : Int32) : Nat → Int64 → Int64 → Int32 → Int64 × (Nat → Nat → Int32)
  | 0, _, _, _ => (0, (fun _ _ => 0))
  | n_59 + 1, x5_59, x7_59, x9_59 =>
  (if (sX7_minutesOf w a1) ≤ x9_59 then
  (if a3 = 0 then
  (x5_59 / (sX7_divisor x5_59 x7_59), w)
  else
  (x7_59 / (sX7_divisor x5_59 x7_59), w))
  else
  (if 12 ≤ x9_59 then
  (if a3 = 0 then
  (x5_59 / (sX7_divisor x5_59 x7_59), w)
  else
  (x7_59 / (sX7_divisor x5_59 x7_59), w))
  else
  (sX7_thunder_59 w a1 a2 a3 n_59) (x5_59 * ((10 - a2).toInt64)) (x7_59 * 10) (x9_59 + 1)))
def sX7_thunder (w : Nat → Nat → Int32) (a1 : Int32) (a2 : Int32) (a3 : Int32) : Int64 × (Nat → Nat → Int32) :=
  (if (sX7_isWay a1) = 0 then
  bnd (sX7_lowest w (-1)) (fun rn_18 wn_18 =>
  (rn_18, wn_18))
  else
  (if (sX7_bound a2 0 9) = 0 then
  (if (sX7_isIn a3 0 1) = 0 then
  bnd (sX7_lowest w (-2)) (fun rn_17 wn_17 =>
  (rn_17, wn_17))
  else
  sX7_thunder_59 w a1 a2 a3 13 1 1 0)
  else
  bnd (sX7_lowest w (sX7_bound a2 0 9)) (fun rn_5 wn_5 =>
  (rn_5, wn_5))))
def sX7_fell (w : Nat → Nat → Int32) (a1 : Int32) (a2 : Int32) : Int32 × (Nat → Nat → Int32) :=
  (if (sX7_isPiece w a1 a2) = 0 then
  bnd (sX7_no w (-1)) (fun rn_3 wn_3 =>
  (rn_3, wn_3))
  else
  ((sX7_fellBits w ((6 * a1) + a2)), w))
def sX7_whose_43 (w : Nat → Nat → Int32) (a1 : Int32) (a2 : Int32) : Nat → Int32 → Int32 → Int32 × (Nat → Nat → Int32)
  | 0, _, _ => (0, (fun _ _ => 0))
  | n_43 + 1, x4_43, x5_43 =>
  (if (w 11 0) ≤ x5_43 then
  (x4_43, w)
  else
  (if 0 ≤ (sX7_spare w ((6 * a1) + a2) x5_43) then
  (sX7_whose_43 w a1 a2 n_43) x4_43 (x5_43 + 1)
  else
  (if x4_43 < 0 then
  (sX7_whose_43 w a1 a2 n_43) x5_43 (x5_43 + 1)
  else
  (if (sX7_spare w ((6 * a1) + a2) x5_43) ≤ (sX7_spare w ((6 * a1) + a2) x4_43) then
  (sX7_whose_43 w a1 a2 n_43) x4_43 (x5_43 + 1)
  else
  (sX7_whose_43 w a1 a2 n_43) x5_43 (x5_43 + 1)))))
def sX7_whose (w : Nat → Nat → Int32) (a1 : Int32) (a2 : Int32) : Int32 × (Nat → Nat → Int32) :=
  (if (sX7_isPiece w a1 a2) = 0 then
  bnd (sX7_no w (-1)) (fun rn_14 wn_14 =>
  (rn_14, wn_14))
  else
  (if (sX7_isShift w ((6 * a1) + a2)) = 0 then
  ((sX7_caught w ((6 * a1) + a2)), w)
  else
  sX7_whose_43 w a1 a2 13 ((-9)) 0))
def sX7_boundBy_58 (w : Nat → Nat → Int32) (a1 : Int32) (a2 : Int32) : Nat → Int32 → Int32 → Int32 × (Nat → Nat → Int32)
  | 0, _, _ => (0, (fun _ _ => 0))
  | n_58 + 1, x4_58, x5_58 =>
  (if 21 ≤ x5_58 then
  (x4_58, w)
  else
  (if (sX7_isBoundBy w x5_58 a1) = 0 then
  (sX7_boundBy_58 w a1 a2 n_58) x4_58 (x5_58 + 1)
  else
  (if a2 = 1 then
  (sX7_boundBy_58 w a1 a2 n_58) x5_58 (x5_58 + 1)
  else
  (if 0 ≤ x4_58 then
  (sX7_boundBy_58 w a1 a2 n_58) x4_58 (x5_58 + 1)
  else
  (sX7_boundBy_58 w a1 a2 n_58) x5_58 (x5_58 + 1)))))
def sX7_boundBy (w : Nat → Nat → Int32) (a1 : Int32) (a2 : Int32) : Int32 × (Nat → Nat → Int32) :=
  (if (sX7_bound a1 0 999) = 0 then
  (if (sX7_isIn a2 0 1) = 0 then
  bnd (sX7_no w (-2)) (fun rn_14 wn_14 =>
  (rn_14, wn_14))
  else
  (if (sX7_areTwos w) = 0 then
  bnd (sX7_no w (-3)) (fun rn_13 wn_13 =>
  (rn_13, wn_13))
  else
  sX7_boundBy_58 w a1 a2 22 ((-9)) 0))
  else
  bnd (sX7_no w (sX7_bound a1 0 999)) (fun rn_3 wn_3 =>
  (rn_3, wn_3)))
def sX7_row (w : Nat → Nat → Int32) (a1 : Int32) : Int32 × (Nat → Nat → Int32) :=
  (if (sX7_bound a1 0 99) = 0 then
  (if (w 27 0) = 12 then
  bnd (sX7_no w (-6)) (fun rn_11 wn_11 =>
  (rn_11, wn_11))
  else
  bns (st w 26 ((w 27 0).toNatClampNeg) a1) (fun wn_7 =>
  bns (st wn_7 27 0 ((wn_7 27 0) + 1)) (fun wn_9 =>
  (wn_9 27 0, wn_9))))
  else
  bnd (sX7_no w (sX7_bound a1 0 99)) (fun rn_3 wn_3 =>
  (rn_3, wn_3)))
def sX7_judge_37 (w : Nat → Nat → Int32) (a1 : Int32) (wn_4 : Nat → Nat → Int32) : Nat → Int32 → Int32 → (Nat → Nat → Int32) → Int32 × (Nat → Nat → Int32)
  | 0, _, _, _ => (0, (fun _ _ => 0))
  | n_37 + 1, x4_37, x5_37, w_37 =>
  (if (w 27 0) ≤ x5_37 then
  bns (st w_37 1 0 (wn_4 1 0)) (fun wn_7 =>
  (x4_37, wn_7))
  else
  (if 0 ≤ x4_37 then
  bns (st w_37 1 0 (wn_4 1 0)) (fun wn_9 =>
  (x4_37, wn_9))
  else
  bns (st w_37 1 0 x5_37) (fun wn_10 =>
  bns (sX7_findSlip wn_10 a1) (fun wn_11 =>
  (if 0 ≤ (wn_11 24 0) then
  (if (wn_11 24 0) = (wn_11 26 (x5_37.toNatClampNeg)) then
  (sX7_judge_37 w a1 wn_4 n_37) ((-9)) (x5_37 + 1) wn_11
  else
  (sX7_judge_37 w a1 wn_4 n_37) x5_37 (x5_37 + 1) wn_11)
  else
  (if 99 = (wn_11 26 (x5_37.toNatClampNeg)) then
  (sX7_judge_37 w a1 wn_4 n_37) ((-9)) (x5_37 + 1) wn_11
  else
  (sX7_judge_37 w a1 wn_4 n_37) x5_37 (x5_37 + 1) wn_11))))))
def sX7_judge (w : Nat → Nat → Int32) (a1 : Int32) : Int32 × (Nat → Nat → Int32) :=
  (if (sX7_isWay a1) = 0 then
  bnd (sX7_no w (-1)) (fun rn_17 wn_17 =>
  (rn_17, wn_17))
  else
  bns (st w 27 0 0) (fun wn_4 =>
  sX7_judge_37 w a1 wn_4 13 ((-9)) 0 wn_4))
def sX7_draw (w : Nat → Nat → Int32) (a1 : Int32) : Int32 × (Nat → Nat → Int32) :=
  bns (st w 28 0 (((w 28 0) * 1664525) + 1013904223)) (fun wn_1 =>
  ((((wn_1 28 0) &&& 2147483647) / 256) - (((wn_1 28 0) &&& 2147483647) / 256) / a1 * a1, wn_1))
def sX7_lots_58 (a1 : Int32) (x5_49 : Int32) (x6_49 : Int32) (rec_49 : (Int32 → Int32 → (Nat → Nat → Int32) → (Int32 × (Nat → Nat → Int32)))) : Nat → Int32 → (Nat → Nat → Int32) → Int32 × (Nat → Nat → Int32)
  | 0, _, _ => (0, (fun _ _ => 0))
  | n_58 + 1, x7_58, w_58 =>
  (if (w_58 11 0) ≤ x7_58 then
  bnd (sX7_doesHold w_58 a1) (fun rn_11 wn_11 =>
  (if rn_11 = 0 then
  rec_49 (x5_49 + 0) (x6_49 + 1) wn_11
  else
  rec_49 (x5_49 + 1) (x6_49 + 1) wn_11))
  else
  bnd (sX7_draw w_58 10) (fun rn_13 wn_13 =>
  bns (st wn_13 4 (x7_58.toNatClampNeg) rn_13) (fun wn_14 =>
  bnd (sX7_draw wn_14 11) (fun rn_15 wn_15 =>
  bns (st wn_15 5 (x7_58.toNatClampNeg) (rn_15 - 5)) (fun wn_16 =>
  (sX7_lots_58 a1 x5_49 x6_49 rec_49 n_58) (x7_58 + 1) wn_16)))))
def sX7_lots_49 (a1 : Int32) (a2 : Int32) : Nat → Int32 → Int32 → (Nat → Nat → Int32) → Int32 × (Nat → Nat → Int32)
  | 0, _, _, _ => (0, (fun _ _ => 0))
  | n_49 + 1, x5_49, x6_49, w_49 =>
  (if a2 ≤ x6_49 then
  bns (sX7_passesAll w_49 1 0) (fun wn_8 =>
  (x5_49, wn_8))
  else
  sX7_lots_58 a1 x5_49 x6_49 (sX7_lots_49 a1 a2 n_49) 13 0 w_49)
def sX7_lots (w : Nat → Nat → Int32) (a1 : Int32) (a2 : Int32) (a3 : Int32) : Int32 × (Nat → Nat → Int32) :=
  (if (sX7_isWay a1) = 0 then
  bnd (sX7_no w (-1)) (fun rn_18 wn_18 =>
  (rn_18, wn_18))
  else
  (if (sX7_bound a2 1 30) = 0 then
  bns (sX7_passesAll w 1 1) (fun wn_5 =>
  bns (st wn_5 28 0 a3) (fun wn_6 =>
  sX7_lots_49 a1 a2 31 0 0 wn_6))
  else
  bnd (sX7_no w (sX7_bound a2 1 30)) (fun rn_17 wn_17 =>
  (rn_17, wn_17))))
/-! facts that the walks use -/
theorem fX7_isIn {a b c : Int32} (h : ¬ sX7_isIn a b c = 0) : b.toInt ≤ a.toInt ∧ a.toInt ≤ c.toInt := by
  unfold sX7_isIn at h
  by_cases h1 : a < b
  · rw [if_pos h1] at h; exact absurd rfl h
  · rw [if_neg h1] at h
    by_cases h2 : c < a
    · rw [if_pos h2] at h; exact absurd rfl h
    · exact ⟨i_nlt h1, i_nlt h2⟩
theorem fX7_isWay {a : Int32} (h : ¬ sX7_isWay a = 0) : 0 ≤ a.toInt ∧ a.toInt < 2 := by
  unfold sX7_isWay at h
  by_cases h1 : a = 0
  · subst h1; exact ⟨by decide, by decide⟩
  · rw [if_neg h1] at h
    by_cases h2 : a = 1
    · subst h2; exact ⟨by decide, by decide⟩
    · rw [if_neg h2] at h; exact absurd rfl h
theorem fX7_isLayer {w : Nat → Nat → Int32} {a : Int32} (h : ¬ sX7_isLayer w a = 0) : 0 ≤ a.toInt ∧ a.toInt < (w 11 0).toInt := by
  unfold sX7_isLayer at h
  by_cases h1 : a < 0
  · rw [if_pos h1] at h; exact absurd rfl h
  · rw [if_neg h1] at h
    by_cases h2 : w 11 0 ≤ a
    · rw [if_pos h2] at h; exact absurd rfl h
    · exact ⟨i_nlt h1, i_nle h2⟩
theorem fX7_isPiece {w : Nat → Nat → Int32} {a b : Int32} (h : ¬ sX7_isPiece w a b = 0) : 0 ≤ a.toInt ∧ a.toInt < 2 ∧ 0 ≤ b.toInt ∧ b.toInt < (w 10 (a.toNatClampNeg)).toInt := by
  unfold sX7_isPiece at h
  by_cases h0 : sX7_isWay a = 0
  · rw [if_pos h0] at h; exact absurd rfl h
  · rw [if_neg h0] at h
    by_cases h1 : b < 0
    · rw [if_pos h1] at h; exact absurd rfl h
    · rw [if_neg h1] at h
      by_cases h2 : w 10 (a.toNatClampNeg) ≤ b
      · rw [if_pos h2] at h; exact absurd rfl h
      · exact ⟨(fX7_isWay h0).1, (fX7_isWay h0).2, i_nlt h1, i_nle h2⟩
theorem rX7_bound (a b c : Int32) : ((sX7_bound a b c).toInt = 0 ∧ b.toInt ≤ a.toInt ∧ a.toInt ≤ c.toInt) ∨ (sX7_bound a b c).toInt = -4 ∨ (sX7_bound a b c).toInt = -6 := by
  unfold sX7_bound
  split
  · rename_i h1
    split
    · rename_i h2; exact Or.inl ⟨rfl, i_le h1, i_le h2⟩
    · exact Or.inr (Or.inr rfl)
  · exact Or.inr (Or.inl rfl)
theorem rX7_next (w : Nat → Nat → Int32) : (sX7_next w).toInt = -1 ∨ (w 17 0).toInt < (w 16 0).toInt := by
  unfold sX7_next
  split
  · exact Or.inl rfl
  · rename_i h; exact Or.inr (i_nle h)
theorem rX7_layerOf (a : Int32) : (sX7_layerOf a).toInt = -1 ∨ 0 ≤ a.toInt := by
  unfold sX7_layerOf
  repeat (split; (rename_i h; subst h; exact Or.inr (by decide)))
  exact Or.inl rfl
theorem rX7_pieceOf (a : Int32) : (sX7_pieceOf a).toInt = -1 ∨ 0 ≤ a.toInt := by
  unfold sX7_pieceOf
  repeat (split; (rename_i h; subst h; exact Or.inr (by decide)))
  exact Or.inl rfl
theorem fX7_areTwos_2 {w : Nat → Nat → Int32} : ∀ (n : Nat) (x : Int32), ¬ sX7_areTwos_2 w n x = 0 → w 27 0 - w 27 0 / 2 * 2 = 0 := by
  intro n
  induction n with
  | zero => intro x h; exact absurd rfl h
  | succ n ih =>
    intro x h
    rw [sX7_areTwos_2] at h
    by_cases c : w 27 0 ≤ x
    · rw [if_pos c] at h
      by_cases d : w 27 0 - w 27 0 / 2 * 2 = 0
      · exact d
      · rw [if_neg d] at h; exact absurd rfl h
    · rw [if_neg c] at h
      split at h
      · exact ih _ h
      · exact absurd rfl h
theorem i_even {x : Int32} (h : x - x / 2 * 2 = 0) : x.toInt % 2 = 0 := by
  have b1 := j_rng x
  have hb : ∃ t : Int, x.toInt.tdiv 2 = t ∧ -1073741824 ≤ t ∧ t ≤ 1073741824 := by
    refine ⟨_, rfl, ?_⟩
    by_cases h0 : 0 ≤ x.toInt
    · rw [Int.tdiv_eq_ediv_of_nonneg h0]; omega
    · have h1 := Int.neg_tdiv x.toInt 2
      rw [Int.tdiv_eq_ediv_of_nonneg (show 0 ≤ -x.toInt by omega)] at h1
      omega
  obtain ⟨t, ht, t1, t2⟩ := hb
  have e1 : (x / 2).toInt = t := by
    rw [Int32.toInt_div, q_2, ht]
    exact Int.bmod_eq_of_le (by omega) (by omega)
  have e2 : (x / 2 * 2).toInt = (t * 2).bmod (2 ^ 32) := by rw [Int32.toInt_mul, e1, q_2]
  have e3 : x.toInt = (x / 2 * 2).toInt := by
    have h2 : x = x / 2 * 2 := by
      have h3 : x - x / 2 * 2 + x / 2 * 2 = 0 + x / 2 * 2 := by rw [h]
      rw [Int32.sub_add_cancel, Int32.zero_add] at h3
      exact h3
    exact congrArg Int32.toInt h2
  rw [e2] at e3
  have h4 : (2 : Int) ∣ ((2 ^ 32 : Nat) : Int) := by decide
  have h5 : (t * 2).bmod (2 ^ 32) % ((2 ^ 32 : Nat) : Int) = (t * 2) % ((2 ^ 32 : Nat) : Int) := Int.bmod_emod
  have h6 : x.toInt % (4294967296 : Int) = (t * 2) % (4294967296 : Int) := by rw [e3]; exact h5
  omega
theorem fX7_areTwos {w : Nat → Nat → Int32} (h : ¬ sX7_areTwos w = 0) : (w 27 0).toInt % 2 = 0 := i_even (fX7_areTwos_2 14 1 h)
theorem R7I_eq {w u : Nat → Nat → Int32} (h : R7I w) (h10 : u 10 = w 10) (h11 : u 11 = w 11) (h16 : u 16 = w 16) (h17 : u 17 = w 17) (h18 : u 18 = w 18) (h27 : u 27 = w 27) : R7I u := by
  unfold R7I at h ⊢
  rw [h10, h11, h16, h17, h18, h27]
  exact h
theorem lc_ne {y : Int64} (h : ¬ lg_cmp y 0 = 0) : ¬ y = 0 := fun e => h (by subst e; decide)
theorem l_ne0 {y : Int64} (h : ¬ y = 0) : y.toInt ≠ 0 := fun q => h (Int64.toInt_inj.mp (by rw [q]; rfl))
theorem l_rem {x y : Int64} (hx : 0 ≤ x.toInt) (hy : 0 < y.toInt) : 0 ≤ (x - x / y * y).toInt ∧ (x - x / y * y).toInt < y.toInt := by
  have b1 := Int64.toInt_lt x
  have b2 := Int64.toInt_lt y
  have h1 : 0 ≤ x.toInt / y.toInt := Int.ediv_nonneg hx (by omega)
  have h2 := Int.emod_add_mul_ediv x.toInt y.toInt
  have h3 := Int.emod_nonneg x.toInt (show y.toInt ≠ 0 by omega)
  have h4 := Int.emod_lt_of_pos x.toInt hy
  have h5 : x.toInt / y.toInt ≤ x.toInt := Int.ediv_le_self _ hx
  have e1 : (x / y).toInt = x.toInt / y.toInt := by
    rw [Int64.toInt_div, Int.tdiv_eq_ediv_of_nonneg hx]
    exact Int.bmod_eq_of_le (by omega) (by omega)
  have e2 : (x / y * y).toInt = x.toInt / y.toInt * y.toInt := by
    rw [Int64.toInt_mul, e1]
    have h6 : x.toInt / y.toInt * y.toInt = y.toInt * (x.toInt / y.toInt) := Int.mul_comm _ _
    rw [h6]
    have h7 : 0 ≤ y.toInt * (x.toInt / y.toInt) := Int.mul_nonneg (by omega) h1
    exact Int.bmod_eq_of_le (by omega) (by omega)
  have h6 : x.toInt / y.toInt * y.toInt = y.toInt * (x.toInt / y.toInt) := Int.mul_comm _ _
  have e3 : (x - x / y * y).toInt = x.toInt - x.toInt / y.toInt * y.toInt := by
    rw [Int64.toInt_sub, e2]
    exact Int.bmod_eq_of_le (by omega) (by omega)
  rw [e3, h6]
  omega
def pw (b : Int64) : Nat → Int64
  | 0 => 1
  | i + 1 => pw b i * b
theorem pw_next {x : Int32} {u v b d : Int64} (h : ∃ i : Nat, i ≤ 12 ∧ x.toInt = i ∧ u = pw b i ∧ v = pw d i) (hx : x.toInt < 12) : ∃ i : Nat, i ≤ 12 ∧ (x + 1).toInt = i ∧ u * b = pw b i ∧ v * d = pw d i := by
  obtain ⟨i, h1, h2, rfl, rfl⟩ := h
  have := q_1
  have := i_add (a := x) (b := 1) (by omega) (by omega)
  exact ⟨i + 1, by omega, by omega, rfl, rfl⟩
theorem thX7_all : ∀ k, k < 10 → ∀ i, i < 13 → 0 ≤ (pw ((10 - Int32.ofNat k).toInt64) i).toInt ∧ 0 ≤ (pw 10 i).toInt ∧ ¬ sX7_divisor (pw ((10 - Int32.ofNat k).toInt64) i) (pw 10 i) = 0 := by decide +kernel
theorem thX7 {a x : Int32} {u v : Int64} (h0 : 0 ≤ a.toInt) (h9 : a.toInt ≤ 9) (h : ∃ i : Nat, i ≤ 12 ∧ x.toInt = i ∧ u = pw ((10 - a).toInt64) i ∧ v = pw 10 i) : 0 ≤ u.toInt ∧ 0 ≤ v.toInt ∧ ¬ sX7_divisor u v = 0 := by
  obtain ⟨i, h1, h2, rfl, rfl⟩ := h
  have e : a = Int32.ofNat a.toInt.toNat := by
    apply Int32.toInt_inj.mp
    rw [Int32.toInt_ofNat_of_lt (by omega)]
    omega
  rw [e]
  exact thX7_all _ (by omega) i (by omega)
theorem sh_all : ∀ j, j < 32 → ((Int32.ofNat j &&& 31).toBitVec.smod (32 : BitVec 32)).toNat = j := by decide +kernel
theorem bit_ex {x : Int32} (h : ¬ x = 0) : ∃ j0 : Nat, j0 < 32 ∧ ∀ y : Int32, y.toInt = j0 → ¬ ((x >>> (y &&& 31)) &&& 1 = 0) := by
  have hx : ¬ x.toBitVec = 0#32 := fun e => h (Int32.toBitVec_inj.mp e)
  obtain ⟨j, hj, hb⟩ : ∃ j, j < 32 ∧ x.toBitVec.getLsbD j = true := by
    refine Classical.byContradiction fun hn => hx (BitVec.eq_of_getLsbD_eq fun i hi => ?_)
    rw [BitVec.getLsbD_zero]
    cases hc : x.toBitVec.getLsbD i with
    | false => rfl
    | true => exact absurd ⟨i, hi, hc⟩ hn
  refine ⟨j, hj, fun y hy hz => ?_⟩
  have ey : y = Int32.ofNat j := by
    apply Int32.toInt_inj.mp
    rw [Int32.toInt_ofNat_of_lt (by omega)]
    exact hy
  subst ey
  have h1 := congrArg (fun z : Int32 => z.toBitVec.getLsbD 0) hz
  have h2 : ((x >>> (Int32.ofNat j &&& 31)) &&& 1).toBitVec.getLsbD 0 = x.toBitVec.getLsbD j := by
    rw [Int32.toBitVec_and, Int32.toBitVec_shiftRight, BitVec.getLsbD_and, BitVec.sshiftRight_eq', sh_all j hj, BitVec.getLsbD_sshiftRight]
    simp [hj]
  have h1 : ((x >>> (Int32.ofNat j &&& 31)) &&& 1).toBitVec.getLsbD 0 = (0 : Int32).toBitVec.getLsbD 0 := h1
  rw [h2, hb] at h1
  revert h1
  decide
theorem st_fill {w : Nat → Nat → Int32} {k : Nat} {v x : Int32} (h : ∀ j : Nat, (j : Int) < x.toInt → w k j = v) (h0 : 0 ≤ x.toInt) (j : Nat) (hj : (j : Int) < x.toInt + 1) : st w k (x.toNatClampNeg) v k j = v := by
  rw [st_s]
  unfold upd
  split
  · rfl
  · rename_i e
    have := ix_cl h0
    exact h j (by omega)
theorem st_bnd {w : Nat → Nat → Int32} {k n i : Nat} {x : Int32} {lo hi : Int} (h : ∀ j : Nat, j < n → lo ≤ (w k j).toInt ∧ (w k j).toInt ≤ hi) (h1 : lo ≤ x.toInt) (h2 : x.toInt ≤ hi) (j : Nat) (hj : j < n) : lo ≤ (st w k i x k j).toInt ∧ (st w k i x k j).toInt ≤ hi := by
  rw [st_s]
  unfold upd
  split
  · exact ⟨h1, h2⟩
  · exact h j hj
def H7S (w : Nat → Nat → Int32) (a1 : Int32) : Prop := 1 ≤ (w 1 2).toInt ∧ 1 ≤ (sX7_pitchMinutes w (w 1 2)).toInt ∧ (sX7_pitchMinutes w (w 1 2)).toInt ≤ 240 ∧ 0 ≤ (sX7_minutesOf w a1).toInt ∧ (sX7_minutesOf w a1).toInt ≤ 54
theorem cX7_allSheaves_4 {w u : Nat → Nat → Int32} (h3 : u 3 = w 3) (h11 : u 11 = w 11) : ∀ (n : Nat) (x y : Int32), sX7_allSheaves_4 u n x y = sX7_allSheaves_4 w n x y := by
  intro n
  induction n with
  | zero => intro x y; rfl
  | succ n ih => intro x y; rw [sX7_allSheaves_4, sX7_allSheaves_4, h3, h11]; simp only [ih]
theorem cX7_minutesOf_7 {w u : Nat → Nat → Int32} (a : Int32) (h9 : u 9 = w 9) (h10 : u 10 = w 10) : ∀ (n : Nat) (x y : Int32), sX7_minutesOf_7 u a n x y = sX7_minutesOf_7 w a n x y := by
  intro n
  induction n with
  | zero => intro x y; rfl
  | succ n ih => intro x y; rw [sX7_minutesOf_7, sX7_minutesOf_7, h9, h10]; simp only [ih]
theorem H7S_eq {w u : Nat → Nat → Int32} {a : Int32} (h1 : u 1 = w 1) (h3 : u 3 = w 3) (h9 : u 9 = w 9) (h10 : u 10 = w 10) (h11 : u 11 = w 11) (h : H7S w a) : H7S u a := by
  unfold H7S at h ⊢
  unfold sX7_pitchMinutes sX7_allSheaves sX7_minutesOf at h ⊢
  simp only [cX7_allSheaves_4 h3 h11, cX7_minutesOf_7 a h9 h10, h1, h10]
  exact h
theorem H7S_keep {w u : Nat → Nat → Int32} {a : Int32} (hk : ∀ k : Nat, k ≠ 23 → k ≠ 24 → u k = w k) (h : H7S w a) : H7S u a := H7S_eq (hk 1 (by decide) (by decide)) (hk 3 (by decide) (by decide)) (hk 9 (by decide) (by decide)) (hk 10 (by decide) (by decide)) (hk 11 (by decide) (by decide)) h
theorem H7S_keep25 {w u : Nat → Nat → Int32} {a : Int32} (hk : ∀ k : Nat, k ≠ 25 → u k = w k) (h : H7S w a) : H7S u a := H7S_eq (hk 1 (by decide)) (hk 3 (by decide)) (hk 9 (by decide)) (hk 10 (by decide)) (hk 11 (by decide)) h
/-! PURE: small places -/
def ii (k : Nat) : Int32 := Int32.ofNat k
theorem ii_t {k : Nat} (h : k < 2147483648) : (ii k).toInt = k := Int32.toInt_ofNat_of_lt h
theorem ii_n {k : Nat} (h : k < 2147483648) : (ii k).toNatClampNeg = k := by
  show (ii k).toInt.toNat = k
  have := ii_t h
  omega
theorem ii_s (k : Nat) : ii k + 1 = ii (k + 1) := (Int32.ofNat_add k 1).symm
theorem ii_a (k j : Nat) : ii k + ii j = ii (k + j) := (Int32.ofNat_add k j).symm
theorem ii_m (k j : Nat) : ii k * ii j = ii (k * j) := (Int32.ofNat_mul k j).symm
theorem ii_b {k j : Nat} (h : j ≤ k) : ii k - ii j = ii (k - j) := (Int32.ofNat_sub k j h).symm
theorem ii_le {k j : Nat} (hk : k < 2147483648) (hj : j < 2147483648) : ii k ≤ ii j ↔ k ≤ j := Int32.ofNat_le_iff_le hk hj
theorem ii_lt {k j : Nat} (hk : k < 2147483648) (hj : j < 2147483648) : ii k < ii j ↔ k < j := Int32.ofNat_lt_iff_lt hk hj
theorem ii_inj {k j : Nat} (hk : k < 2147483648) (hj : j < 2147483648) : ii k = ii j ↔ k = j := ⟨fun h => by
  have h1 := congrArg Int32.toInt h
  rw [ii_t hk, ii_t hj] at h1
  omega, fun h => by rw [h]⟩
theorem ii_of {x : Int32} (h : 0 ≤ x.toInt) : x = ii x.toInt.toNat := by
  apply Int32.toInt_inj.mp
  have := j_rng x
  rw [ii_t (by omega)]
  omega
theorem ii_ex {x : Int32} {m : Int} (h : 0 ≤ x.toInt) (h2 : x.toInt ≤ m) : ∃ k : Nat, (k : Int) ≤ m ∧ x = ii k := ⟨x.toInt.toNat, by omega, ii_of h⟩
theorem ii_nn {k : Nat} (h : k < 2147483648) : ¬ ii k < 0 := fun e => by
  have := i_lt e
  rw [ii_t h, q_0] at this
  omega
theorem ii_0le {k : Nat} (h : k < 2147483648) : (0 : Int32) ≤ ii k := Int32.le_iff_toInt_le.mpr (by rw [ii_t h, q_0]; omega)
/-! the reference's rows kept and put back -/
def pF (r : Nat) (L : Int32) : Nat → Int32 → (Nat → Nat → Int32) → Nat → Nat → Int32
  | 0, _, _ => (fun _ _ => 0)
  | n + 1, x, w =>
    (if L ≤ x then w else
    (if (w 21 0) = 0 then
      pF r L n (x + 1) (st (st w r (x.toNatClampNeg) (w 19 ((w 22 0).toNatClampNeg))) 22 0 ((st w r (x.toNatClampNeg) (w 19 ((w 22 0).toNatClampNeg))) 22 0 + 1))
    else
      pF r L n (x + 1) (st (st w 19 ((w 22 0).toNatClampNeg) (w r (x.toNatClampNeg))) 22 0 ((st w 19 ((w 22 0).toNatClampNeg) (w r (x.toNatClampNeg))) 22 0 + 1))))
def ofr (r : Nat) : Nat := [0, 0, 4, 16, 28, 40, 52, 64, 76, 88, 100, 102].getD r 0
def lnr (r : Nat) : Nat := [0, 4, 12, 12, 12, 12, 12, 12, 12, 12, 2].getD r 0
theorem ofr_s {r : Nat} (h1 : 1 ≤ r) (h2 : r ≤ 10) : ofr (r + 1) = ofr r + lnr r ∧ lnr r ≤ 12 ∧ ofr r + lnr r ≤ 102 := by
  have h : ∀ r, r ≤ 10 → 1 ≤ r → ofr (r + 1) = ofr r + lnr r ∧ lnr r ≤ 12 ∧ ofr r + lnr r ≤ 102 := by decide
  exact h r h2 h1
def pA : Nat → Nat → (Nat → Nat → Int32) → Nat → Nat → Int32
  | 0, _, w => w
  | m + 1, r, w => pA m (r + 1) (pF r (ii (lnr r)) (lnr r + 1) (ii 0) w)
theorem pF_setting : ∀ n x w, sX7_passes_setting_2 n x w = pF 1 4 n x w := by
  intro n
  induction n with
  | zero => intro x w; rfl
  | succ n ih => intro x w; rw [sX7_passes_setting_2, pF]; simp only [bns, ih]
theorem pF_kind : ∀ n x w, sX7_passes_kind_2 n x w = pF 2 12 n x w := by
  intro n
  induction n with
  | zero => intro x w; rfl
  | succ n ih => intro x w; rw [sX7_passes_kind_2, pF]; simp only [bns, ih]
theorem pF_sheaves : ∀ n x w, sX7_passes_sheaves_2 n x w = pF 3 12 n x w := by
  intro n
  induction n with
  | zero => intro x w; rfl
  | succ n ih => intro x w; rw [sX7_passes_sheaves_2, pF]; simp only [bns, ih]
theorem pF_out : ∀ n x w, sX7_passes_out_2 n x w = pF 4 12 n x w := by
  intro n
  induction n with
  | zero => intro x w; rfl
  | succ n ih => intro x w; rw [sX7_passes_out_2, pF]; simp only [bns, ih]
theorem pF_lean : ∀ n x w, sX7_passes_lean_2 n x w = pF 5 12 n x w := by
  intro n
  induction n with
  | zero => intro x w; rfl
  | succ n ih => intro x w; rw [sX7_passes_lean_2, pF]; simp only [bns, ih]
theorem pF_badly : ∀ n x w, sX7_passes_badly_2 n x w = pF 6 12 n x w := by
  intro n
  induction n with
  | zero => intro x w; rfl
  | succ n ih => intro x w; rw [sX7_passes_badly_2, pF]; simp only [bns, ih]
theorem pF_sort : ∀ n x w, sX7_passes_sort_2 n x w = pF 7 12 n x w := by
  intro n
  induction n with
  | zero => intro x w; rfl
  | succ n ih => intro x w; rw [sX7_passes_sort_2, pF]; simp only [bns, ih]
theorem pF_figure : ∀ n x w, sX7_passes_figure_2 n x w = pF 8 12 n x w := by
  intro n
  induction n with
  | zero => intro x w; rfl
  | succ n ih => intro x w; rw [sX7_passes_figure_2, pF]; simp only [bns, ih]
theorem pF_lasting : ∀ n x w, sX7_passes_lasting_2 n x w = pF 9 12 n x w := by
  intro n
  induction n with
  | zero => intro x w; rfl
  | succ n ih => intro x w; rw [sX7_passes_lasting_2, pF]; simp only [bns, ih]
theorem pF_pieces : ∀ n x w, sX7_passes_pieces_2 n x w = pF 10 2 n x w := by
  intro n
  induction n with
  | zero => intro x w; rfl
  | succ n ih => intro x w; rw [sX7_passes_pieces_2, pF]; simp only [bns, ih]
theorem pA_all (w : Nat → Nat → Int32) : sX7_passes_pieces (sX7_passes_lasting (sX7_passes_figure (sX7_passes_sort (sX7_passes_badly (sX7_passes_lean (sX7_passes_out (sX7_passes_sheaves (sX7_passes_kind (sX7_passes_setting w))))))))) = pA 10 1 w := by
  unfold sX7_passes_pieces sX7_passes_lasting sX7_passes_figure sX7_passes_sort sX7_passes_badly sX7_passes_lean sX7_passes_out sX7_passes_sheaves sX7_passes_kind sX7_passes_setting
  rw [pF_pieces, pF_lasting, pF_figure, pF_sort, pF_badly, pF_lean, pF_out, pF_sheaves, pF_kind, pF_setting]
  rfl
theorem upd_id (f : Nat → Int32) (k : Nat) : upd f k (f k) = f := by
  funext j
  unfold upd
  split
  · rename_i h; rw [h]
  · rfl
theorem pF_keep {r L : Nat} (hL : L ≤ 12) : ∀ n k w, k ≤ L → L - k < n → ¬ w 21 0 = 0 → ∀ q, q ≠ 19 → q ≠ 22 → pF r (ii L) n (ii k) w q = w q := by
  intro n
  induction n with
  | zero => intro k w h1 h2; omega
  | succ n ih =>
    intro k w h1 h2 h21 q q1 q2
    rw [pF]
    by_cases c : L ≤ k
    · rw [if_pos ((ii_le (by omega) (by omega)).mpr c)]
    · rw [if_neg (fun e => c ((ii_le (by omega) (by omega)).mp e)), if_neg h21, ii_s, ih (k + 1) _ (by omega) (by omega) (by rw [st_o (by decide), st_o (by decide)]; exact h21) q q1 q2, st_o q2, st_o q1]
theorem pF_save {r L : Nat} (hr1 : ¬ r = 19) (hr2 : ¬ r = 22) (hL : L ≤ 12) : ∀ n k c w, k ≤ L → L - k < n → c + (L - k) ≤ 250 → w 22 0 = ii c → ¬ w 21 0 = 0 → pF r (ii L) n (ii k) w 22 0 = ii (c + (L - k)) ∧ ∀ j, pF r (ii L) n (ii k) w 19 j = if c ≤ j ∧ j < c + (L - k) then w r (k + (j - c)) else w 19 j := by
  intro n
  induction n with
  | zero => intro k c w h1 h2; omega
  | succ n ih =>
    intro k c w h1 h2 hc h22 h21
    rw [pF]
    by_cases cc : L ≤ k
    · rw [if_pos ((ii_le (by omega) (by omega)).mpr cc)]
      refine ⟨by rw [h22, show c + (L - k) = c by omega], fun j => ?_⟩
      rw [if_neg (by omega)]
    · rw [if_neg (fun e => cc ((ii_le (by omega) (by omega)).mp e)), if_neg h21, h22, ii_n (by omega), ii_n (by omega), ii_s, st_o (show ¬ 22 = 19 by decide), h22, ii_s]
      obtain ⟨g2, g3⟩ := ih (k + 1) (c + 1) (st (st w 19 c (w r k)) 22 0 (ii (c + 1))) (by omega) (by omega) (by omega) st_rd (by rw [st_o (by decide), st_o (by decide)]; exact h21)
      refine ⟨by rw [g2]; congr 1; omega, fun j => ?_⟩
      rw [g3 j]
      by_cases a : c + 1 ≤ j ∧ j < c + 1 + (L - (k + 1))
      · rw [if_pos a, if_pos (by omega), st_o hr2, st_o hr1, show k + 1 + (j - (c + 1)) = k + (j - c) by omega]
      · rw [if_neg a, st_o (show ¬ 19 = 22 by decide), st_s]
        unfold upd
        by_cases e : j = c
        · rw [if_pos e, if_pos (by omega), show k + (j - c) = k by omega]
        · rw [if_neg e, if_neg (by omega)]
theorem pF_rest {r L : Nat} (hr1 : ¬ r = 19) (hr2 : ¬ r = 22) (hr3 : ¬ r = 21) (hL : L ≤ 12) : ∀ n k c w, k ≤ L → L - k < n → c + (L - k) ≤ 250 → w 22 0 = ii c → w 21 0 = 0 → (∀ q, q ≠ r → q ≠ 22 → pF r (ii L) n (ii k) w q = w q) ∧ pF r (ii L) n (ii k) w 22 0 = ii (c + (L - k)) ∧ ∀ j, pF r (ii L) n (ii k) w r j = if k ≤ j ∧ j < L then w 19 (c + (j - k)) else w r j := by
  intro n
  induction n with
  | zero => intro k c w h1 h2; omega
  | succ n ih =>
    intro k c w h1 h2 hc h22 h21
    rw [pF]
    by_cases cc : L ≤ k
    · rw [if_pos ((ii_le (by omega) (by omega)).mpr cc)]
      refine ⟨fun q _ _ => rfl, by rw [h22, show c + (L - k) = c by omega], fun j => ?_⟩
      rw [if_neg (by omega)]
    · rw [if_neg (fun e => cc ((ii_le (by omega) (by omega)).mp e)), if_pos h21, h22, ii_n (by omega), ii_n (by omega), ii_s, st_o (show ¬ 22 = r from fun e => hr2 e.symm), h22, ii_s]
      obtain ⟨g1, g2, g3⟩ := ih (k + 1) (c + 1) (st (st w r k (w 19 c)) 22 0 (ii (c + 1))) (by omega) (by omega) (by omega) st_rd (by rw [st_o (by decide), st_o (fun e => hr3 e.symm)]; exact h21)
      refine ⟨fun q q1 q2 => by rw [g1 q q1 q2, st_o q2, st_o q1], by rw [g2]; congr 1; omega, fun j => ?_⟩
      rw [g3 j]
      by_cases a : k + 1 ≤ j ∧ j < L
      · rw [if_pos a, if_pos (by omega), st_o (show ¬ 19 = 22 by decide), st_o (fun e => hr1 e.symm), show c + 1 + (j - (k + 1)) = c + (j - k) by omega]
      · rw [if_neg a, st_o hr2, st_s]
        unfold upd
        by_cases e : j = k
        · rw [if_pos e, if_pos (by omega), show c + (j - k) = c by omega]
        · rw [if_neg e, if_neg (by omega)]
theorem pA_keep : ∀ m r w, r + m = 11 → 1 ≤ r → ¬ w 21 0 = 0 → ∀ q, q ≠ 19 → q ≠ 22 → pA m r w q = w q := by
  intro m
  induction m with
  | zero => intro r w _ _ _ q _ _; rfl
  | succ m ih =>
    intro r w h1 h2 h21 q q1 q2
    have hs := ofr_s h2 (by omega)
    have g := pF_keep (r := r) hs.2.1 (lnr r + 1) 0 w (by omega) (by omega) h21
    rw [pA, ih (r + 1) _ (by omega) (by omega) (by rw [g 21 (by decide) (by decide)]; exact h21) q q1 q2, g q q1 q2]
theorem pA_save (B : Nat) (hB : B ≤ 125) : ∀ m r w, r + m = 11 → 1 ≤ r → w 22 0 = ii (B + ofr r) → ¬ w 21 0 = 0 → pA m r w 22 0 = ii (B + 102) ∧ (∀ q, r ≤ q → q ≤ 10 → ∀ j, j < lnr q → pA m r w 19 (B + ofr q + j) = w q j) ∧ ∀ j, (j < B + ofr r ∨ B + 102 ≤ j) → pA m r w 19 j = w 19 j := by
  intro m
  induction m with
  | zero =>
    intro r w h1 h2 h22 h21
    have : r = 11 := by omega
    subst this
    exact ⟨h22, fun q a b => by omega, fun j _ => rfl⟩
  | succ m ih =>
    intro r w h1 h2 h22 h21
    have hs := ofr_s h2 (by omega)
    have hr1 : ¬ r = 19 := by omega
    have hr2 : ¬ r = 22 := by omega
    have g := pF_keep (r := r) hs.2.1 (lnr r + 1) 0 w (by omega) (by omega) h21
    obtain ⟨k1, k2⟩ := pF_save hr1 hr2 hs.2.1 (lnr r + 1) 0 (B + ofr r) w (by omega) (by omega) (by omega) h22 h21
    obtain ⟨i1, i2, i3⟩ := ih (r + 1) (pF r (ii (lnr r)) (lnr r + 1) (ii 0) w) (by omega) (by omega) (by rw [k1]; congr 1; omega) (by rw [g 21 (by decide) (by decide)]; exact h21)
    rw [pA]
    refine ⟨i1, fun q a b j hj => ?_, fun j hj => ?_⟩
    · by_cases e : q = r
      · subst e
        rw [i3 _ (by omega), k2, if_pos (by omega), show 0 + (B + ofr q + j - (B + ofr q)) = j by omega]
      · rw [i2 q (by omega) b j hj, g q (by omega) (by omega)]
    · rw [i3 j (by omega), k2, if_neg (by omega)]
theorem pA_rest (B : Nat) (hB : B ≤ 125) : ∀ m r w, r + m = 11 → 1 ≤ r → w 22 0 = ii (B + ofr r) → w 21 0 = 0 → pA m r w 22 0 = ii (B + 102) ∧ (∀ q, (q < r ∨ 10 < q) → q ≠ 22 → pA m r w q = w q) ∧ ∀ q, r ≤ q → q ≤ 10 → ∀ j, pA m r w q j = if j < lnr q then w 19 (B + ofr q + j) else w q j := by
  intro m
  induction m with
  | zero =>
    intro r w h1 h2 h22 h21
    have : r = 11 := by omega
    subst this
    exact ⟨h22, fun q _ _ => rfl, fun q a b => by omega⟩
  | succ m ih =>
    intro r w h1 h2 h22 h21
    have hs := ofr_s h2 (by omega)
    have hr1 : ¬ r = 19 := by omega
    have hr2 : ¬ r = 22 := by omega
    have hr3 : ¬ r = 21 := by omega
    obtain ⟨k0, k1, k2⟩ := pF_rest hr1 hr2 hr3 hs.2.1 (lnr r + 1) 0 (B + ofr r) w (by omega) (by omega) (by omega) h22 h21
    obtain ⟨i1, i2, i3⟩ := ih (r + 1) (pF r (ii (lnr r)) (lnr r + 1) (ii 0) w) (by omega) (by omega) (by rw [k1]; congr 1; omega) (by rw [k0 21 (fun e => hr3 e.symm) (by decide)]; exact h21)
    rw [pA]
    refine ⟨i1, fun q a b => ?_, fun q a b j => ?_⟩
    · rw [i2 q (by omega) b, k0 q (by omega) b]
    · by_cases e : q = r
      · subst e
        rw [i2 q (by omega) (by omega), k2]
        by_cases d : j < lnr q
        · rw [if_pos d, if_pos (by omega), show B + ofr q + (j - 0) = B + ofr q + j by omega]
        · rw [if_neg d, if_neg (by omega)]
      · rw [i3 q (by omega) b j, k0 19 (fun e => hr1 e.symm) (by decide), k0 q e (by omega)]
theorem pa_eq (w : Nat → Nat → Int32) (a b : Int32) : sX7_passesAll w a b = st (sX7_passOne (pA 10 1 (st (st w 22 0 (125 * a)) 21 0 b)) (pA 10 1 (st (st w 22 0 (125 * a)) 21 0 b) 11 0)).2 11 0 (sX7_passOne (pA 10 1 (st (st w 22 0 (125 * a)) 21 0 b)) (pA 10 1 (st (st w 22 0 (125 * a)) 21 0 b) 11 0)).1 := by
  unfold sX7_passesAll
  simp only [bns, bnd, pA_all]
theorem iX7_save {w : Nat → Nat → Int32} {a : Int32} (k : Nat) (h1 : k ≠ 19) (h2 : k ≠ 21) (h3 : k ≠ 22) : sX7_passesAll w a 1 k = w k := by
  rw [pa_eq]
  have g := pA_keep 10 1 (st (st w 22 0 (125 * a)) 21 0 1) rfl (by omega) (by rw [st_rd]; decide)
  generalize pA 10 1 (st (st w 22 0 (125 * a)) 21 0 1) = u at g
  have e21 : ¬ u 21 0 = 0 := by rw [g 21 (by decide) (by decide), st_rd]; decide
  have g2 : ∀ q, q ≠ 19 → q ≠ 21 → q ≠ 22 → u q = w q := fun q q1 q2 q3 => by rw [g q q1 q3, st_o q2, st_o q3]
  unfold sX7_passOne
  rw [if_neg e21]
  simp only [bns]
  by_cases e : k = 11
  · subst e
    rw [st_s, st_o (by decide), st_o (by decide), upd_id]
    exact g2 11 (by decide) (by decide) (by decide)
  · rw [st_o e, st_o h3, st_o h1]
    exact g2 k h1 h2 h3
theorem pa_save (w : Nat → Nat → Int32) (a : Nat) (ha : a ≤ 1) : (∀ r, 1 ≤ r → r ≤ 10 → ∀ j, j < lnr r → sX7_passesAll w (ii a) 1 19 (125 * a + ofr r + j) = w r j) ∧ sX7_passesAll w (ii a) 1 19 (125 * a + 102) = w 11 0 ∧ ∀ j, (j < 125 * a ∨ 125 * a + 103 ≤ j) → sX7_passesAll w (ii a) 1 19 j = w 19 j := by
  have e125 : (125 : Int32) * ii a = ii (125 * a + ofr 1) := ii_m 125 a
  rw [pa_eq, e125]
  have g := pA_keep 10 1 (st (st w 22 0 (ii (125 * a + ofr 1))) 21 0 1) rfl (by omega) (by rw [st_rd]; decide)
  obtain ⟨s1, s2, s3⟩ := pA_save (125 * a) (by omega) 10 1 (st (st w 22 0 (ii (125 * a + ofr 1))) 21 0 1) rfl (by omega) (by rw [st_o (by decide)]; exact st_rd) (by rw [st_rd]; decide)
  generalize pA 10 1 (st (st w 22 0 (ii (125 * a + ofr 1))) 21 0 1) = u at g s1 s2 s3
  have e21 : ¬ u 21 0 = 0 := by rw [g 21 (by decide) (by decide), st_rd]; decide
  have g2 : ∀ q, q ≠ 19 → q ≠ 21 → q ≠ 22 → u q = w q := fun q q1 q2 q3 => by rw [g q q1 q3, st_o q2, st_o q3]
  unfold sX7_passOne
  rw [if_neg e21]
  simp only [bns]
  rw [s1, ii_n (by omega), st_o (show ¬ 19 = 11 by decide), st_o (show ¬ 19 = 22 by decide), st_s, g2 11 (by decide) (by decide) (by decide)]
  refine ⟨fun r h1 h2 j hj => ?_, ?_, fun j hj => ?_⟩
  · have hs := ofr_s h1 h2
    unfold upd
    rw [if_neg (by omega), s2 r h1 h2 j hj, st_o (by omega), st_o (by omega)]
  · unfold upd; rw [if_pos rfl]
  · have o1 : ofr 1 = 0 := rfl
    unfold upd
    rw [if_neg (by omega), s3 j (by omega), st_o (by decide), st_o (by decide)]
theorem pa_rest (w : Nat → Nat → Int32) (a : Nat) (ha : a ≤ 1) : (∀ q, (q = 0 ∨ 12 ≤ q) → q ≠ 21 → q ≠ 22 → sX7_passesAll w (ii a) 0 q = w q) ∧ (∀ r, 1 ≤ r → r ≤ 10 → ∀ j, sX7_passesAll w (ii a) 0 r j = if j < lnr r then w 19 (125 * a + ofr r + j) else w r j) ∧ sX7_passesAll w (ii a) 0 11 0 = w 19 (125 * a + 102) ∧ ∀ j, ¬ j = 0 → sX7_passesAll w (ii a) 0 11 j = w 11 j := by
  have e125 : (125 : Int32) * ii a = ii (125 * a + ofr 1) := ii_m 125 a
  rw [pa_eq, e125]
  obtain ⟨s1, s2, s3⟩ := pA_rest (125 * a) (by omega) 10 1 (st (st w 22 0 (ii (125 * a + ofr 1))) 21 0 0) rfl (by omega) (by rw [st_o (by decide)]; exact st_rd) (by rw [st_rd])
  generalize pA 10 1 (st (st w 22 0 (ii (125 * a + ofr 1))) 21 0 0) = u at s1 s2 s3
  have e21 : u 21 0 = 0 := by rw [s2 21 (by omega) (by decide), st_rd]
  have g2 : ∀ q, (q = 0 ∨ 11 ≤ q) → q ≠ 21 → q ≠ 22 → u q = w q := fun q q1 q2 q3 => by rw [s2 q (by omega) q3, st_o q2, st_o q3]
  unfold sX7_passOne
  rw [if_pos e21]
  simp only [bns]
  rw [s1, ii_n (by omega)]
  refine ⟨fun q q1 q2 q3 => ?_, fun r h1 h2 j => ?_, ?_, fun j hj => ?_⟩
  · rw [st_o (by omega), st_o q3, g2 q (by omega) q2 q3]
  · rw [st_o (by omega), st_o (by omega), s3 r h1 h2 j, st_o (show ¬ 19 = 21 by decide), st_o (show ¬ 19 = 22 by decide), st_o (by omega), st_o (by omega)]
  · rw [st_rd, g2 19 (by omega) (by decide) (by decide)]
  · rw [st_s]
    unfold upd
    rw [if_neg hj, st_o (by decide), g2 11 (by omega) (by decide) (by decide)]
theorem iX7_restore {w0 w2 : Nat → Nat → Int32} (h0 : R7I w0) (h2 : R7I w2) (hk : w2 19 = (sX7_passesAll w0 1 1) 19) : R7I (sX7_passesAll w2 1 0) := by
  obtain ⟨p1, p2, p3, p4⟩ := pa_rest w2 1 (by omega)
  obtain ⟨s1, s2, s3⟩ := pa_save w0 1 (by omega)
  have e1 : sX7_passesAll w2 (ii 1) 0 = sX7_passesAll w2 1 0 := rfl
  have e2 : sX7_passesAll w0 (ii 1) 1 = sX7_passesAll w0 1 1 := rfl
  rw [e1] at p1 p2 p3
  rw [e2] at s1 s2
  refine ⟨?_, ?_, ?_, ?_, ?_, fun j hj => ?_⟩
  · rw [p3, hk, s2]; exact R7I_layers h0
  · rw [p1 16 (by omega) (by decide) (by decide)]; exact R7I_taped h2
  · rw [p1 17 (by omega) (by decide) (by decide)]; exact R7I_at h2
  · rw [p1 27 (by omega) (by decide) (by decide)]; exact R7I_rowMany h2
  · rw [p1 18 (by omega) (by decide) (by decide)]; exact R7I_statements h2
  · rw [p2 10 (by omega) (by omega) j, if_pos (show j < lnr 10 from hj), hk, s1 10 (by omega) (by omega) j hj]
    exact R7I_pieces h0 hj
theorem rX7_farthest_4 {w : Nat → Nat → Int32} (h : R7I w) : ∀ (n : Nat) (x y : Int32), 0 ≤ x.toInt → x.toInt < 12 → 0 ≤ y.toInt → y.toInt ≤ 12 → 0 ≤ (sX7_farthest_4 w n x y).toInt ∧ (sX7_farthest_4 w n x y).toInt < 12 := by
  intro n
  induction n with
  | zero => intro x y _ _ _ _; exact ⟨by show 0 ≤ (0 : Int32).toInt; decide, by show (0 : Int32).toInt < 12; decide⟩
  | succ n ih =>
    intro x y h1 h2 h3 h4
    have hl := R7I_layers h
    rw [sX7_farthest_4]
    have q1 := q_1
    by_cases c : w 11 0 ≤ y
    · rw [if_pos c]; exact ⟨h1, h2⟩
    · have fc := i_nle c
      have e := i_add (a := y) (b := 1) (by omega) (by omega)
      rw [if_neg c]
      split
      · exact ih _ _ h1 h2 (by omega) (by omega)
      · exact ih _ _ (by omega) (by omega) (by omega) (by omega)
theorem rX7_farthest {w : Nat → Nat → Int32} (h : R7I w) : 0 ≤ (sX7_farthest w).toInt ∧ (sX7_farthest w).toInt < 12 := rX7_farthest_4 h _ _ _ (by decide) (by decide) (by decide) (by decide)
