def sX0_weight (a1 : Int32) (a2 : Int32) : Int32 :=
  (if a1 = 3 then
  14 * a2
  else
  (if a1 = 5 then
  (10 * a2) + 60
  else
  (if a1 = 6 then
  14 * a2
  else
  10 * a2)))
def sX0_binding (a1 : Int32) (a2 : Int32) : Int32 :=
  (if a1 = 1 then
  8 * a2
  else
  (if a1 = 2 then
  (5 * a2) / 2
  else
  (if a1 = 4 then
  (if 0 < ((5 * a2) / 2) - 10 then ((5 * a2) / 2) - 10 else 0)
  else
  (if a1 = 5 then
  8 * a2
  else
  (if a1 = 6 then
  7 * a2
  else
  5 * a2)))))
def sX0_thickness (a1 : Int32) : Int32 :=
  (if a1 = 2 then
  11
  else
  (if a1 = 3 then
  8
  else
  (if a1 = 4 then
  11
  else
  (if a1 = 6 then
  8
  else
  9))))
def sX5_allMinutes_4 (w : Nat → Nat → Int32) : Nat → Int32 → Int32 → Int32
  | 0, _, _ => 0
  | n_4 + 1, x1_4, x2_4 =>
  (if (w 3 0) ≤ x2_4 then
  x1_4
  else
  (sX5_allMinutes_4 w n_4) (x1_4 + (w 2 (x2_4.toNatClampNeg))) (x2_4 + 1))
def sX5_allMinutes (w : Nat → Nat → Int32) : Int32 :=
  sX5_allMinutes_4 w 7 0 0
def sX5_add (w : Nat → Nat → Int32) (a1 : Int32) (a2 : Int32) (a3 : Int32) : Int32 × (Nat → Nat → Int32) :=
  (if 6 ≤ (w 3 0) then
  (0, w)
  else
  (if 20 < a2 then
  (0, w)
  else
  (if 1 ≤ a3 then
  bns (st w 0 ((w 3 0).toNatClampNeg) a1) (fun wn_6 =>
  bns (st wn_6 1 ((wn_6 3 0).toNatClampNeg) a2) (fun wn_8 =>
  bns (st wn_8 2 ((wn_8 3 0).toNatClampNeg) a3) (fun wn_10 =>
  bns (st wn_10 3 0 ((wn_10 3 0) + 1)) (fun wn_12 =>
  (1, wn_12)))))
  else
  (0, w))))
def sX3_add (w : Nat → Nat → Int32) (a1 : Int32) : Nat → Nat → Int32 :=
  (if 12 ≤ (w 1 0) then
  w
  else
  bns (st w 0 ((w 1 0).toNatClampNeg) a1) (fun wn_4 =>
  bns (st wn_4 1 0 ((wn_4 1 0) + 1)) (fun wn_6 =>
  wn_6)))
def sX3_clear (w : Nat → Nat → Int32) : Nat → Nat → Int32 :=
  bns (st w 1 0 0) (fun wn_1 =>
  wn_1)
def sX3_isOfTrials_2 (w : Nat → Nat → Int32) : Nat → Int32 → Int32
  | 0, _ => 0
  | n_2 + 1, x1_2 =>
  (if (w 1 0) ≤ x1_2 then
  (if ((w 1 0) - (w 1 0) / 2 * 2) = 0 then
  1
  else
  0)
  else
  (if (w 0 (x1_2.toNatClampNeg)) ≤ 1 then
  (sX3_isOfTrials_2 w n_2) (x1_2 + 2)
  else
  0))
def sX3_isOfTrials (w : Nat → Nat → Int32) : Int32 :=
  sX3_isOfTrials_2 w 14 1
def sX3_allSo_2 (w : Nat → Nat → Int32) (a1 : Int32) (a2 : Int32) : Nat → Int32 → Int32
  | 0, _ => 0
  | n_2 + 1, x3_2 =>
  (if (w 1 0) ≤ x3_2 then
  1
  else
  (if ((w 0 ((x3_2 - 1).toNatClampNeg)) * a1) < a2 then
  (if (w 0 (x3_2.toNatClampNeg)) = 1 then
  0
  else
  (sX3_allSo_2 w a1 a2 n_2) (x3_2 + 2))
  else
  (if (w 0 (x3_2.toNatClampNeg)) = 1 then
  (sX3_allSo_2 w a1 a2 n_2) (x3_2 + 2)
  else
  0)))
def sX3_allSo (w : Nat → Nat → Int32) (a1 : Int32) (a2 : Int32) : Int32 :=
  sX3_allSo_2 w a1 a2 13 1
def sX3_leastBinding_2 (w : Nat → Nat → Int32) (a1 : Int32) : Nat → Int32 → Int32
  | 0, _ => 0
  | n_2 + 1, x2_2 =>
  (if 20 < x2_2 then
  (-9)
  else
  (if (sX3_allSo w x2_2 a1) = 0 then
  (sX3_leastBinding_2 w a1 n_2) (x2_2 + 1)
  else
  x2_2))
def sX3_leastBinding (w : Nat → Nat → Int32) (a1 : Int32) : Int32 :=
  sX3_leastBinding_2 w a1 22 0
def sX3_greatestBinding_3 (w : Nat → Nat → Int32) (a1 : Int32) : Nat → Int32 → Int32
  | 0, _ => 0
  | n_3 + 1, x2_3 =>
  (if x2_3 < 0 then
  (-9)
  else
  (if (sX3_allSo w x2_3 a1) = 0 then
  bns (x2_3 + (-1)) (fun xn_4 =>
  (sX3_greatestBinding_3 w a1 n_3) xn_4)
  else
  x2_3))
def sX3_greatestBinding (w : Nat → Nat → Int32) (a1 : Int32) : Int32 :=
  sX3_greatestBinding_3 w a1 22 20
def sX4_nextSeed (a1 : Int32) : Int32 :=
  (a1 * 1664525) + 1013904223
def sX4_draw (a1 : Int32) (a2 : Int32) : Int32 :=
  (if 1 ≤ a2 then
  ((a1 &&& 2147483647) / 256) - ((a1 &&& 2147483647) / 256) / a2 * a2
  else
  0)
def sX4_hasLayer (w : Nat → Nat → Int32) (a1 : Int32) : Int32 :=
  (if a1 < 0 then
  0
  else
  (if (w 6 0) ≤ a1 then
  0
  else
  1))
def sX4_hasWay (w : Nat → Nat → Int32) (a1 : Int32) : Int32 :=
  (if a1 < 0 then
  0
  else
  (if 2 ≤ a1 then
  0
  else
  1))
def sX4_hasPiece (w : Nat → Nat → Int32) (a1 : Int32) (a2 : Int32) : Int32 :=
  (if (sX4_hasWay w a1) = 0 then
  0
  else
  (if a2 < 0 then
  0
  else
  (if (w (13 + 4 * (a1.toNatClampNeg)) 0) ≤ a2 then
  0
  else
  1)))
def sX4_weightOf (w : Nat → Nat → Int32) (a1 : Int32) : Int32 :=
  (sX0_weight (w 0 (a1.toNatClampNeg)) (w 1 (a1.toNatClampNeg)))
def sX4_strengthOf (w : Nat → Nat → Int32) (a1 : Int32) : Int32 :=
  (w 4 (a1.toNatClampNeg)) + (15 * (w 7 0))
def sX4_height_4 (w : Nat → Nat → Int32) : Nat → Int32 → Int32 → Int32
  | 0, _, _ => 0
  | n_4 + 1, x1_4, x2_4 =>
  (if (w 6 0) ≤ x2_4 then
  x1_4
  else
  (sX4_height_4 w n_4) (x1_4 + (sX0_thickness (w 0 (x2_4.toNatClampNeg)))) (x2_4 + 1))
def sX4_height (w : Nat → Nat → Int32) : Int32 :=
  sX4_height_4 w 13 0 0
def sX4_layerFarthestOut_4 (w : Nat → Nat → Int32) : Nat → Int32 → Int32 → Int32
  | 0, _, _ => 0
  | n_4 + 1, x1_4, x2_4 =>
  (if (w 6 0) ≤ x2_4 then
  x1_4
  else
  (if x1_4 < 0 then
  (sX4_layerFarthestOut_4 w n_4) x2_4 (x2_4 + 1)
  else
  (if (w 2 (x2_4.toNatClampNeg)) ≤ (w 2 (x1_4.toNatClampNeg)) then
  (sX4_layerFarthestOut_4 w n_4) x1_4 (x2_4 + 1)
  else
  (sX4_layerFarthestOut_4 w n_4) x2_4 (x2_4 + 1))))
def sX4_layerFarthestOut (w : Nat → Nat → Int32) : Int32 :=
  sX4_layerFarthestOut_4 w 13 ((-1)) 0
def sX4_width (w : Nat → Nat → Int32) : Int32 :=
  (if 0 ≤ (sX4_layerFarthestOut w) then
  96 + (2 * (w 2 ((sX4_layerFarthestOut w).toNatClampNeg)))
  else
  96)
def sX4_allWeight (w : Nat → Nat → Int32) : Int32 :=
  (if (w 6 0) = 0 then
  0
  else
  w 5 0)
def sX4_allSheaves_4 (w : Nat → Nat → Int32) : Nat → Int32 → Int32 → Int32
  | 0, _, _ => 0
  | n_4 + 1, x1_4, x2_4 =>
  (if (w 6 0) ≤ x2_4 then
  x1_4
  else
  (sX4_allSheaves_4 w n_4) (x1_4 + (w 1 (x2_4.toNatClampNeg))) (x2_4 + 1))
def sX4_allSheaves (w : Nat → Nat → Int32) : Int32 :=
  sX4_allSheaves_4 w 13 0 0
def sX4_shiftOf (w : Nat → Nat → Int32) (a1 : Int32) (a2 : Int32) (a3 : Int32) : Int32 :=
  (if (w (10 + 4 * (a1.toNatClampNeg)) (a2.toNatClampNeg)) = 0 then
  ((w 5 (a3.toNatClampNeg)) * (if 0 ≤ ((w (11 + 4 * (a1.toNatClampNeg)) (a2.toNatClampNeg)) - 10) + (w 3 (a3.toNatClampNeg)) then ((w (11 + 4 * (a1.toNatClampNeg)) (a2.toNatClampNeg)) - 10) + (w 3 (a3.toNatClampNeg)) else 0 - (((w (11 + 4 * (a1.toNatClampNeg)) (a2.toNatClampNeg)) - 10) + (w 3 (a3.toNatClampNeg))))) / 40
  else
  (if (w (10 + 4 * (a1.toNatClampNeg)) (a2.toNatClampNeg)) = 1 then
  ((w 5 (a3.toNatClampNeg)) * (w (11 + 4 * (a1.toNatClampNeg)) (a2.toNatClampNeg))) / 60
  else
  (if (w (10 + 4 * (a1.toNatClampNeg)) (a2.toNatClampNeg)) = 2 then
  ((((w 5 (a3.toNatClampNeg)) * (w (11 + 4 * (a1.toNatClampNeg)) (a2.toNatClampNeg))) / 60) * (a3 + 1)) / 3
  else
  (if (w (10 + 4 * (a1.toNatClampNeg)) (a2.toNatClampNeg)) = 3 then
  ((w 5 (a3.toNatClampNeg)) * ((w (11 + 4 * (a1.toNatClampNeg)) (a2.toNatClampNeg)) + (w 2 (a3.toNatClampNeg)))) / 50
  else
  0))))
def sX4_slipsAt (w : Nat → Nat → Int32) (a1 : Int32) (a2 : Int32) (a3 : Int32) : Int32 :=
  (if (w (10 + 4 * (a1.toNatClampNeg)) (a2.toNatClampNeg)) = 4 then
  (if a3 = ((w 6 0) - 1) then
  (if (sX4_height w) ≤ (40 + (4 * (w (11 + 4 * (a1.toNatClampNeg)) (a2.toNatClampNeg)))) then
  0
  else
  1)
  else
  0)
  else
  (if (w (10 + 4 * (a1.toNatClampNeg)) (a2.toNatClampNeg)) = 5 then
  (if a3 = (sX4_layerFarthestOut w) then
  (if (sX4_width w) ≤ (90 + (w (11 + 4 * (a1.toNatClampNeg)) (a2.toNatClampNeg))) then
  0
  else
  1)
  else
  0)
  else
  (if (sX4_shiftOf w a1 a2 a3) ≤ (sX4_strengthOf w a3) then
  0
  else
  1)))
def sX4_layerOfSlip_2 (w : Nat → Nat → Int32) (a1 : Int32) (a2 : Int32) : Nat → Int32 → Int32
  | 0, _ => 0
  | n_2 + 1, x3_2 =>
  (if (w 6 0) ≤ x3_2 then
  (-1)
  else
  (if (sX4_slipsAt w a1 a2 x3_2) = 0 then
  (sX4_layerOfSlip_2 w a1 a2 n_2) (x3_2 + 1)
  else
  x3_2))
def sX4_layerOfSlip (w : Nat → Nat → Int32) (a1 : Int32) (a2 : Int32) : Int32 :=
  sX4_layerOfSlip_2 w a1 a2 13 0
def sX4_pieceOfSlip_2 (w : Nat → Nat → Int32) (a1 : Int32) : Nat → Int32 → Int32
  | 0, _ => 0
  | n_2 + 1, x2_2 =>
  (if (w (13 + 4 * (a1.toNatClampNeg)) 0) ≤ x2_2 then
  (-1)
  else
  (if (sX4_layerOfSlip w a1 x2_2) < 0 then
  (sX4_pieceOfSlip_2 w a1 n_2) (x2_2 + 1)
  else
  x2_2))
def sX4_pieceOfSlip (w : Nat → Nat → Int32) (a1 : Int32) : Int32 :=
  sX4_pieceOfSlip_2 w a1 7 0
def sX4_holds (w : Nat → Nat → Int32) (a1 : Int32) : Int32 :=
  (if 0 ≤ (sX4_pieceOfSlip w a1) then
  0
  else
  1)
def sX4_marginAt_7 (w : Nat → Nat → Int32) (a1 : Int32) (a2 : Int32) : Nat → Int32 → Int32 → Int32
  | 0, _, _ => 0
  | n_7 + 1, x3_7, x4_7 =>
  (if (w 6 0) ≤ x4_7 then
  x3_7
  else
  (sX4_marginAt_7 w a1 a2 n_7) ((if (sX4_strengthOf w x4_7) - (sX4_shiftOf w a1 a2 x4_7) < x3_7 then (sX4_strengthOf w x4_7) - (sX4_shiftOf w a1 a2 x4_7) else x3_7)) (x4_7 + 1))
def sX4_marginAt (w : Nat → Nat → Int32) (a1 : Int32) (a2 : Int32) : Int32 :=
  sX4_marginAt_7 w a1 a2 13 9999 0
def sX4_leastMargin_6 (w : Nat → Nat → Int32) (a1 : Int32) : Nat → Int32 → Int32 → Int32
  | 0, _, _ => 0
  | n_6 + 1, x2_6, x3_6 =>
  (if (w (13 + 4 * (a1.toNatClampNeg)) 0) ≤ x3_6 then
  x2_6
  else
  (if 4 ≤ (w (10 + 4 * (a1.toNatClampNeg)) (x3_6.toNatClampNeg)) then
  (sX4_leastMargin_6 w a1 n_6) x2_6 (x3_6 + 1)
  else
  (sX4_leastMargin_6 w a1 n_6) ((if (sX4_marginAt w a1 x3_6) < x2_6 then (sX4_marginAt w a1 x3_6) else x2_6)) (x3_6 + 1)))
def sX4_leastMargin (w : Nat → Nat → Int32) (a1 : Int32) : Int32 :=
  sX4_leastMargin_6 w a1 7 9999 0
def sX4_pitchingMinutes (w : Nat → Nat → Int32) (a1 : Int32) : Int32 :=
  (if 1 ≤ a1 then
  (((sX4_allSheaves w) + a1) - 1) / a1
  else
  0)
def sX4_firstBack_4 (w : Nat → Nat → Int32) (a1 : Int32) : Nat → Int32 → Int32 → Int32
  | 0, _, _ => 0
  | n_4 + 1, x2_4, x3_4 =>
  (if a1 ≤ x3_4 then
  x2_4
  else
  (if 4 ≤ x3_4 then
  x2_4
  else
  (if (w 9 (x2_4.toNatClampNeg)) ≤ (w 9 (x3_4.toNatClampNeg)) then
  (sX4_firstBack_4 w a1 n_4) x2_4 (x3_4 + 1)
  else
  (sX4_firstBack_4 w a1 n_4) x3_4 (x3_4 + 1))))
def sX4_firstBack (w : Nat → Nat → Int32) (a1 : Int32) : Int32 :=
  sX4_firstBack_4 w a1 4 0 1
def sX4_bear_2 (a1 : Int32) : Nat → Int32 → (Nat → Nat → Int32) → Nat → Nat → Int32
  | 0, _, _ => (fun _ _ => 0)
  | n_2 + 1, x2_2, w_2 =>
  (if (w_2 6 0) ≤ x2_2 then
  w_2
  else
  bns (st w_2 5 (x2_2.toNatClampNeg) ((w_2 5 (x2_2.toNatClampNeg)) + a1)) (fun wn_4 =>
  (sX4_bear_2 a1 n_2) (x2_2 + 1) wn_4))
def sX4_bear (w : Nat → Nat → Int32) (a1 : Int32) : Nat → Nat → Int32 :=
  sX4_bear_2 a1 13 0 w
def sX4_takeTop (w : Nat → Nat → Int32) : Int32 × (Nat → Nat → Int32) :=
  (if (w 6 0) = 0 then
  (0, w)
  else
  bns (sX4_bear w (-(sX4_weightOf w ((w 6 0) - 1)))) (fun wn_5 =>
  bns (st wn_5 6 0 ((wn_5 6 0) - 1)) (fun wn_7 =>
  (1, wn_7))))
def sX4_lay (w : Nat → Nat → Int32) (a1 : Int32) (a2 : Int32) (a3 : Int32) (a4 : Int32) : Int32 × (Nat → Nat → Int32) :=
  (if 12 ≤ (w 6 0) then
  (0, w)
  else
  (if a2 < 1 then
  (0, w)
  else
  (if 20 < a2 then
  (0, w)
  else
  (if (if 0 ≤ a4 then a4 else 0 - a4) ≤ 5 then
  bns (st w 0 ((w 6 0).toNatClampNeg) a1) (fun wn_7 =>
  bns (st wn_7 1 ((wn_7 6 0).toNatClampNeg) a2) (fun wn_9 =>
  bns (st wn_9 2 ((wn_9 6 0).toNatClampNeg) a3) (fun wn_11 =>
  bns (st wn_11 3 ((wn_11 6 0).toNatClampNeg) a4) (fun wn_13 =>
  bns (st wn_13 4 ((wn_13 6 0).toNatClampNeg) (sX0_binding a1 a2)) (fun wn_16 =>
  bns (st wn_16 5 ((wn_16 6 0).toNatClampNeg) 0) (fun wn_18 =>
  bns (st wn_18 6 0 ((wn_18 6 0) + 1)) (fun wn_20 =>
  bns (sX4_bear wn_20 (sX4_weightOf wn_20 ((wn_20 6 0) - 1))) (fun wn_23 =>
  (1, wn_23)))))))))
  else
  (0, w)))))
def sX4_leanMore_2 (a1 : Int32) : Nat → Int32 → (Nat → Nat → Int32) → Nat → Nat → Int32
  | 0, _, _ => (fun _ _ => 0)
  | n_2 + 1, x2_2, w_2 =>
  (if (w_2 6 0) ≤ x2_2 then
  w_2
  else
  bns (st w_2 3 (x2_2.toNatClampNeg) (if (-5) < (if (w_2 3 (x2_2.toNatClampNeg)) + a1 < 5 then (w_2 3 (x2_2.toNatClampNeg)) + a1 else 5) then (if (w_2 3 (x2_2.toNatClampNeg)) + a1 < 5 then (w_2 3 (x2_2.toNatClampNeg)) + a1 else 5) else (-5))) (fun wn_4 =>
  (sX4_leanMore_2 a1 n_2) (x2_2 + 1) wn_4))
def sX4_leanMore (w : Nat → Nat → Int32) (a1 : Int32) : Nat → Nat → Int32 :=
  sX4_leanMore_2 a1 13 0 w
def sX4_layBadly_2 (a1 : Int32) : Nat → Int32 → (Nat → Nat → Int32) → Nat → Nat → Int32
  | 0, _, _ => (fun _ _ => 0)
  | n_2 + 1, x2_2, w_2 =>
  (if (w_2 6 0) ≤ x2_2 then
  w_2
  else
  bns (st w_2 4 (x2_2.toNatClampNeg) (if 0 < (w_2 4 (x2_2.toNatClampNeg)) - (4 * (((w_2 1 (x2_2.toNatClampNeg)) * a1) / 9)) then (w_2 4 (x2_2.toNatClampNeg)) - (4 * (((w_2 1 (x2_2.toNatClampNeg)) * a1) / 9)) else 0)) (fun wn_5 =>
  (sX4_layBadly_2 a1 n_2) (x2_2 + 1) wn_5))
def sX4_layBadly (w : Nat → Nat → Int32) (a1 : Int32) : Nat → Nat → Int32 :=
  sX4_layBadly_2 a1 13 0 w
def sX4_layByLot_4  : Nat → Int32 → Int32 → (Nat → Nat → Int32) → Int32 × (Nat → Nat → Int32)
  | 0, _, _, _ => (0, (fun _ _ => 0))
  | n_4 + 1, x2_4, x3_4, w_4 =>
  (if (w_4 6 0) ≤ x3_4 then
  (x2_4, w_4)
  else
  bns (st w_4 2 (x3_4.toNatClampNeg) (sX4_draw (sX4_nextSeed x2_4) 10)) (fun wn_5 =>
  bns (st wn_5 3 (x3_4.toNatClampNeg) ((sX4_draw (sX4_nextSeed (sX4_nextSeed x2_4)) 11) - 5)) (fun wn_8 =>
  (sX4_layByLot_4 n_4) ((sX4_nextSeed (sX4_nextSeed x2_4))) (x3_4 + 1) wn_8)))
def sX4_layByLot (w : Nat → Nat → Int32) (a1 : Int32) : Int32 × (Nat → Nat → Int32) :=
  sX4_layByLot_4 13 a1 0 w
def sX4_sheavesHome_59 (w : Nat → Nat → Int32) (a1 : Int32) (a2 : Int32) (a3 : Int32) : Nat → Int32 → Int32 → Int32 → (Nat → Nat → Int32) → Int32 × (Nat → Nat → Int32)
  | 0, _, _, _, _ => (0, (fun _ _ => 0))
  | n_59 + 1, x6_59, x7_59, x8_59, w_59 =>
  (if a3 ≤ x8_59 then
  ((if x7_59 * (sX4_allSheaves w_59) < w_59 7 3 then x7_59 * (sX4_allSheaves w_59) else w_59 7 3), w_59)
  else
  (if ((((if x6_59 < w_59 9 ((sX4_firstBack w_59 a2).toNatClampNeg) then w_59 9 ((sX4_firstBack w_59 a2).toNatClampNeg) else x6_59) + (sX4_pitchingMinutes w (w 7 2))) + (sX5_allMinutes (wy w (a1.toNatClampNeg)))) + (sX4_pitchingMinutes w (w 7 2))) ≤ a3 then
  bns (st w_59 9 ((sX4_firstBack w_59 a2).toNatClampNeg) (((((if x6_59 < w_59 9 ((sX4_firstBack w_59 a2).toNatClampNeg) then w_59 9 ((sX4_firstBack w_59 a2).toNatClampNeg) else x6_59) + (sX4_pitchingMinutes w (w 7 2))) + (sX5_allMinutes (wy w (a1.toNatClampNeg)))) + (sX4_pitchingMinutes w (w 7 2))) + (sX5_allMinutes (wy w (a1.toNatClampNeg))))) (fun wn_12 =>
  (sX4_sheavesHome_59 w a1 a2 a3 n_59) ((if x6_59 < w_59 9 ((sX4_firstBack w_59 a2).toNatClampNeg) then w_59 9 ((sX4_firstBack w_59 a2).toNatClampNeg) else x6_59) + (sX4_pitchingMinutes w (w 7 2))) (x7_59 + 1) (x8_59 + 1) wn_12)
  else
  ((if x7_59 * (sX4_allSheaves w_59) < w_59 7 3 then x7_59 * (sX4_allSheaves w_59) else w_59 7 3), w_59)))
def sX4_sheavesHome_26 (w : Nat → Nat → Int32) (a1 : Int32) (a2 : Int32) (a3 : Int32) : Nat → Int32 → (Nat → Nat → Int32) → Int32 × (Nat → Nat → Int32)
  | 0, _, _ => (0, (fun _ _ => 0))
  | n_26 + 1, x6_26, w_26 =>
  (if 4 ≤ x6_26 then
  sX4_sheavesHome_59 w a1 a2 a3 1000 0 0 0 w_26
  else
  bns (st w_26 9 (x6_26.toNatClampNeg) 0) (fun wn_15 =>
  (sX4_sheavesHome_26 w a1 a2 a3 n_26) (x6_26 + 1) wn_15))
def sX4_sheavesHome (w : Nat → Nat → Int32) (a1 : Int32) (a2 : Int32) (a3 : Int32) : Int32 × (Nat → Nat → Int32) :=
  sX4_sheavesHome_26 w a1 a2 a3 5 0 w
def sX5_become (w : Nat → Nat → Int32) (v : Nat → Nat → Int32) : Nat → Nat → Int32 :=
  bns (sr w 0 (va_cpy (v 0) (w 0) 0 0 6)) (fun wn_1 =>
  bns (sr wn_1 1 (va_cpy (v 1) (wn_1 1) 0 0 6)) (fun wn_2 =>
  bns (sr wn_2 2 (va_cpy (v 2) (wn_2 2) 0 0 6)) (fun wn_3 =>
  bns (st wn_3 3 0 (v 3 0)) (fun wn_5 =>
  wn_5))))
def sX4_become (w : Nat → Nat → Int32) (v : Nat → Nat → Int32) : Nat → Nat → Int32 :=
  bns (sr w 0 (va_cpy (v 0) (w 0) 0 0 12)) (fun wn_1 =>
  bns (sr wn_1 1 (va_cpy (v 1) (wn_1 1) 0 0 12)) (fun wn_2 =>
  bns (sr wn_2 2 (va_cpy (v 2) (wn_2 2) 0 0 12)) (fun wn_3 =>
  bns (sr wn_3 3 (va_cpy (v 3) (wn_3 3) 0 0 12)) (fun wn_4 =>
  bns (sr wn_4 4 (va_cpy (v 4) (wn_4 4) 0 0 12)) (fun wn_5 =>
  bns (sr wn_5 5 (va_cpy (v 5) (wn_5 5) 0 0 12)) (fun wn_6 =>
  bns (st wn_6 6 0 (v 6 0)) (fun wn_8 =>
  bns (sr wn_8 7 (va_cpy (v 7) (wn_8 7) 0 0 4)) (fun wn_9 =>
  bns (sX5_become (wy wn_9 0) (wy v 0)) (fun un_12 =>
  bns (swy wn_9 0 un_12) (fun wn_12 =>
  bns (sX5_become (wy wn_12 1) (wy v 1)) (fun un_15 =>
  bns (swy wn_12 1 un_15) (fun wn_15 =>
  wn_15))))))))))))
def sX4_turn (w : Nat → Nat → Int32) (a1 : Int32) (a2 : Int32) : Int32 × (Nat → Nat → Int32) :=
  (if a2 < (leastS (a1.toNatClampNeg)) then
  (0, w)
  else
  (if a2 ≤ (mostS (a1.toNatClampNeg)) then
  bns (st w 7 (a1.toNatClampNeg) a2) (fun wn_5 =>
  (1, wn_5))
  else
  (0, w)))
/-! what the walks need of the wagon's functions -/
def R4I (w : Nat → Nat → Int32) : Prop := (0 ≤ (w 6 0).toInt ∧ (w 6 0).toInt ≤ 12) ∧ ∀ k, k < 2 → 0 ≤ (w (13 + 4 * k) 0).toInt ∧ (w (13 + 4 * k) 0).toInt ≤ 6
theorem R4I_layers {w : Nat → Nat → Int32} (h : R4I w) : 0 ≤ (w 6 0).toInt ∧ (w 6 0).toInt ≤ 12 := h.1
def R5I (w : Nat → Nat → Int32) : Prop := 0 ≤ (w 3 0).toInt ∧ (w 3 0).toInt ≤ 6
theorem R4I_pieces {w : Nat → Nat → Int32} (h : R4I w) {k : Nat} (hk : k < 2) : 0 ≤ (w (13 + 4 * k) 0).toInt ∧ (w (13 + 4 * k) 0).toInt ≤ 6 := h.2 k hk
theorem R5I_of {w : Nat → Nat → Int32} (h : R4I w) {k : Nat} (hk : k < 2) : R5I (wy w k) := by
  have e : 10 + 4 * k + 3 = 13 + 4 * k := by omega
  show 0 ≤ (w (10 + 4 * k + 3) 0).toInt ∧ (w (10 + 4 * k + 3) 0).toInt ≤ 6
  rw [e]; exact h.2 k hk
theorem R4I_put {w : Nat → Nat → Int32} (h : R4I w) {x : Int32} (h1 : 0 ≤ x.toInt) (h2 : x.toInt ≤ 12) : R4I (st w 6 0 x) := ⟨⟨h1, h2⟩, fun k hk => by
  rw [show st w 6 0 x (13 + 4 * k) = w (13 + 4 * k) from st_o (by omega)]; exact h.2 k hk⟩
theorem R4I_arr {w : Nat → Nat → Int32} (h : R4I w) {r j : Nat} {x : Int32} (hr : r < 6 ∨ r = 7 ∨ r = 9) : R4I (st w r j x) := ⟨by
  rw [show st w r j x 6 = w 6 from st_o (by omega)]; exact h.1, fun k hk => by
  rw [show st w r j x (13 + 4 * k) = w (13 + 4 * k) from st_o (by omega)]; exact h.2 k hk⟩
theorem R5I_pieces {w : Nat → Nat → Int32} (h : R5I w) : 0 ≤ (w 3 0).toInt ∧ (w 3 0).toInt ≤ 6 := h
theorem R5I_put {w : Nat → Nat → Int32} (_ : R5I w) {x : Int32} (h1 : 0 ≤ x.toInt) (h2 : x.toInt ≤ 6) : R5I (st w 3 0 x) := ⟨h1, h2⟩
theorem R5I_arr {w : Nat → Nat → Int32} (h : R5I w) {r j : Nat} {x : Int32} (hr : r < 3) : R5I (st w r j x) := by
  unfold R5I; rw [show st w r j x 3 = w 3 from st_o (by omega)]; exact h
def R3I (w : Nat → Nat → Int32) : Prop := 0 ≤ (w 1 0).toInt ∧ (w 1 0).toInt ≤ 12
theorem R3I_size {w : Nat → Nat → Int32} (h : R3I w) : 0 ≤ (w 1 0).toInt ∧ (w 1 0).toInt ≤ 12 := h
theorem R3I_put {w : Nat → Nat → Int32} (_ : R3I w) {x : Int32} (h1 : 0 ≤ x.toInt) (h2 : x.toInt ≤ 12) : R3I (st w 1 0 x) := ⟨h1, h2⟩
theorem R3I_arr {w : Nat → Nat → Int32} (h : R3I w) {r j : Nat} {x : Int32} (hr : r = 0) : R3I (st w r j x) := by
  unfold R3I; rw [show st w r j x 1 = w 1 from st_o (by omega)]; exact h
theorem R4I_row {w : Nat → Nat → Int32} (h : R4I w) {r : Nat} {f : Nat → Int32} (hr : r < 6 ∨ r = 7 ∨ r = 9) : R4I (sr w r f) := ⟨by
  rw [show sr w r f 6 = w 6 from if_neg (by omega)]; exact h.1, fun k hk => by
  rw [show sr w r f (13 + 4 * k) = w (13 + 4 * k) from if_neg (by omega)]; exact h.2 k hk⟩
theorem R5I_row {w : Nat → Nat → Int32} (h : R5I w) {r : Nat} {f : Nat → Int32} (hr : r < 3) : R5I (sr w r f) := by
  unfold R5I; rw [show sr w r f 3 = w 3 from if_neg (by omega)]; exact h
theorem R4I_way {w : Nat → Nat → Int32} (h : R4I w) {k : Nat} {y : Nat → Nat → Int32} (hk : k < 2) (hy : R5I y) : R4I (swy w k y) := ⟨by
  rw [show swy w k y 6 = w 6 from if_neg (by omega)]; exact h.1, fun j hj => by
  by_cases e : j = k
  · subst e
    rw [show swy w j y (13 + 4 * j) = y (13 + 4 * j - (10 + 4 * j)) from if_pos (by omega), show 13 + 4 * j - (10 + 4 * j) = 3 by omega]; exact hy
  · rw [show swy w k y (13 + 4 * j) = w (13 + 4 * j) from if_neg (by omega)]; exact h.2 j hj⟩
theorem fX4_hasLayer {w : Nat → Nat → Int32} {a : Int32} (h : ¬ sX4_hasLayer w a = 0) : 0 ≤ a.toInt ∧ a.toInt < (w 6 0).toInt := by
  unfold sX4_hasLayer at h
  by_cases h1 : a < 0
  · rw [if_pos h1] at h; exact absurd rfl h
  · rw [if_neg h1] at h
    by_cases h2 : w 6 0 ≤ a
    · rw [if_pos h2] at h; exact absurd rfl h
    · exact ⟨i_nlt h1, i_nle h2⟩
theorem fX4_hasWay {a : Int32} {w : Nat → Nat → Int32} (h : ¬ sX4_hasWay w a = 0) : 0 ≤ a.toInt ∧ a.toInt < 2 := by
  unfold sX4_hasWay at h
  by_cases h1 : a < 0
  · rw [if_pos h1] at h; exact absurd rfl h
  · rw [if_neg h1] at h
    by_cases h2 : 2 ≤ a
    · rw [if_pos h2] at h; exact absurd rfl h
    · exact ⟨i_nlt h1, by have := i_nle h2; rw [q_2] at this; exact this⟩
theorem fX4_hasPiece {w : Nat → Nat → Int32} {a b : Int32} (h : ¬ sX4_hasPiece w a b = 0) : 0 ≤ a.toInt ∧ a.toInt < 2 ∧ 0 ≤ b.toInt ∧ b.toInt < (w (13 + 4 * (a.toNatClampNeg)) 0).toInt := by
  unfold sX4_hasPiece at h
  by_cases h0 : sX4_hasWay w a = 0
  · rw [if_pos h0] at h; exact absurd rfl h
  · rw [if_neg h0] at h
    by_cases h1 : b < 0
    · rw [if_pos h1] at h; exact absurd rfl h
    · rw [if_neg h1] at h
      by_cases h2 : w (13 + 4 * (a.toNatClampNeg)) 0 ≤ b
      · rw [if_pos h2] at h; exact absurd rfl h
      · exact ⟨(fX4_hasWay h0).1, (fX4_hasWay h0).2, i_nlt h1, i_nle h2⟩
theorem rX4_layerFarthestOut_4 {w : Nat → Nat → Int32} (h : R4I w) : ∀ (n : Nat) (x y : Int32), -1 ≤ x.toInt → x.toInt < 12 → 0 ≤ y.toInt → y.toInt ≤ 12 → -1 ≤ (sX4_layerFarthestOut_4 w n x y).toInt ∧ (sX4_layerFarthestOut_4 w n x y).toInt < 12 := by
  have hb := R4I_layers h
  intro n
  induction n with
  | zero => intro x y h1 h2 h3 h4; rw [sX4_layerFarthestOut_4]; have := q_0; omega
  | succ n ih =>
    intro x y h1 h2 h3 h4
    rw [sX4_layerFarthestOut_4]
    split
    · exact ⟨h1, h2⟩
    · rename_i c1
      have f1 := i_nle c1
      have f2 := i_addr (a := y) (b := 1) (n := 1) q_1 (by omega) (by omega)
      split
      · exact ih y (y + 1) (by omega) (by omega) (by omega) (by omega)
      · split
        · exact ih x (y + 1) h1 h2 (by omega) (by omega)
        · exact ih y (y + 1) (by omega) (by omega) (by omega) (by omega)
theorem rX4_layerFarthestOut {w : Nat → Nat → Int32} (h : R4I w) : -1 ≤ (sX4_layerFarthestOut w).toInt ∧ (sX4_layerFarthestOut w).toInt < 12 := by
  have := q_0
  have := q_m1
  exact rX4_layerFarthestOut_4 h 13 (-1) 0 (by omega) (by omega) (by omega) (by omega)
theorem rX4_pieceOfSlip_2 (w : Nat → Nat → Int32) (a : Int32) : ∀ (n : Nat) (x : Int32), 0 ≤ x.toInt → x.toInt + n ≤ 100 → 1 ≤ x.toInt + n → (0 < x.toInt → 0 < (w (13 + 4 * (a.toNatClampNeg)) 0).toInt) → (sX4_pieceOfSlip_2 w a n x).toInt = -1 ∨ (0 ≤ (sX4_pieceOfSlip_2 w a n x).toInt ∧ (sX4_pieceOfSlip_2 w a n x).toInt < (w (13 + 4 * (a.toNatClampNeg)) 0).toInt) := by
  intro n
  induction n with
  | zero =>
    intro x h0 h1 h2 h3
    rw [sX4_pieceOfSlip_2]
    have := q_0
    exact Or.inr ⟨by omega, by have := h3 (by omega); omega⟩
  | succ n ih =>
    intro x h0 h1 h2 h3
    rw [sX4_pieceOfSlip_2]
    split
    · exact Or.inl q_m1
    · rename_i c1
      have f1 := i_nle c1
      split
      · have := i_addr (a := x) (b := 1) (n := 1) q_1 (by omega) (by omega)
        exact ih (x + 1) (by omega) (by omega) (by omega) (fun _ => by omega)
      · exact Or.inr ⟨h0, f1⟩
theorem rX4_pieceOfSlip (w : Nat → Nat → Int32) (a : Int32) : (sX4_pieceOfSlip w a).toInt = -1 ∨ (0 ≤ (sX4_pieceOfSlip w a).toInt ∧ (sX4_pieceOfSlip w a).toInt < (w (13 + 4 * (a.toNatClampNeg)) 0).toInt) := by
  have := q_0
  exact rX4_pieceOfSlip_2 w a 7 0 (by omega) (by omega) (by omega) (fun h => by omega)
theorem rX4_firstBack_4 (w : Nat → Nat → Int32) (a : Int32) : ∀ (n : Nat) (x y : Int32), 0 ≤ x.toInt → x.toInt < 4 → 0 ≤ y.toInt → y.toInt ≤ 4 → 0 ≤ (sX4_firstBack_4 w a n x y).toInt ∧ (sX4_firstBack_4 w a n x y).toInt < 4 := by
  intro n
  induction n with
  | zero => intro x y h1 h2 h3 h4; rw [sX4_firstBack_4]; have := q_0; omega
  | succ n ih =>
    intro x y h1 h2 h3 h4
    rw [sX4_firstBack_4]
    split
    · exact ⟨h1, h2⟩
    · split
      · exact ⟨h1, h2⟩
      · rename_i c1
        have f1 := i_nle c1
        rw [q_4] at f1
        have f2 := i_addr (a := y) (b := 1) (n := 1) q_1 (by omega) (by omega)
        split
        · exact ih x (y + 1) h1 h2 (by omega) (by omega)
        · exact ih y (y + 1) (by omega) (by omega) (by omega) (by omega)
theorem rX4_firstBack (w : Nat → Nat → Int32) (a : Int32) : 0 ≤ (sX4_firstBack w a).toInt ∧ (sX4_firstBack w a).toInt < 4 := by
  have := q_0
  have := q_1
  exact rX4_firstBack_4 w a 4 0 1 (by omega) (by omega) (by omega) (by omega)
