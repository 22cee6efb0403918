def sX6_readLayer (w : Nat → Nat → Nat → Int32) (a1 : Int32) : Int32 × (Nat → Nat → Nat → Int32) :=
  (if (sX1_at (w 3) (a1 + 5)) = 45 then
  (if 11 ≤ ((w 1) 6 0) then
  (0, w)
  else
  bnd (sX4_lay (w 1) (sX0_of (sX1_at (w 3) (a1 + 1))) (sX1_number (w 3) (a1 + 2) 2) (sX1_digit (w 3) (a1 + 4)) (-(sX1_digit (w 3) (a1 + 6)))) (fun rn_18 un_18 =>
  bns (sc w 1 un_18) (fun wn_18 =>
  (if rn_18 = 0 then
  (0, wn_18)
  else
  (1, wn_18)))))
  else
  (if 11 ≤ ((w 1) 6 0) then
  (0, w)
  else
  bnd (sX4_lay (w 1) (sX0_of (sX1_at (w 3) (a1 + 1))) (sX1_number (w 3) (a1 + 2) 2) (sX1_digit (w 3) (a1 + 4)) (sX1_digit (w 3) (a1 + 6))) (fun rn_10 un_10 =>
  bns (sc w 1 un_10) (fun wn_10 =>
  (if rn_10 = 0 then
  (0, wn_10)
  else
  (1, wn_10))))))
def sX6_readPiece (w : Nat → Nat → Nat → Int32) (a1 : Int32) : Int32 × (Nat → Nat → Nat → Int32) :=
  (if (sX4_hasWay (w 1) (sX1_digit (w 3) (a1 + 1))) = 0 then
  (0, w)
  else
  bnd (sX5_add (wy (w 1) ((sX1_digit (w 3) (a1 + 1)).toNatClampNeg)) (sX2_of (sX1_at (w 3) (a1 + 2))) (sX1_number (w 3) (a1 + 3) 2) (sX1_digit (w 3) (a1 + 5))) (fun rn_9 un_9 =>
  bns (sc w 1 (swy (w 1) ((sX1_digit (w 3) (a1 + 1)).toNatClampNeg) un_9)) (fun wn_9 =>
  (if rn_9 = 0 then
  (0, wn_9)
  else
  (1, wn_9)))))
def sX6_readStatement (w : Nat → Nat → Nat → Int32) (a1 : Int32) : Int32 × (Nat → Nat → Nat → Int32) :=
  (if (sX1_at (w 3) a1) = 102 then
  bnd (sX4_turn (w 1) 3 (sX1_number (w 3) (a1 + 1) 3)) (fun rn_4 un_4 =>
  bns (sc w 1 un_4) (fun wn_4 =>
  (rn_4, wn_4)))
  else
  (if (sX1_at (w 3) a1) = 107 then
  bnd (sX4_turn (w 1) 1 (sX1_digit (w 3) (a1 + 1))) (fun rn_7 un_7 =>
  bns (sc w 1 un_7) (fun wn_7 =>
  (if rn_7 = 0 then
  (0, wn_7)
  else
  bnd (sX4_turn (wn_7 1) 2 (sX1_digit (wn_7 3) (a1 + 2))) (fun rn_10 un_10 =>
  bns (sc wn_7 1 un_10) (fun wn_10 =>
  (if rn_10 = 0 then
  (0, wn_10)
  else
  (1, wn_10)))))))
  else
  (if (sX1_at (w 3) a1) = 114 then
  bnd (sX4_turn (w 1) 0 (sX1_digit (w 3) (a1 + 1))) (fun rn_14 un_14 =>
  bns (sc w 1 un_14) (fun wn_14 =>
  (rn_14, wn_14)))
  else
  (if (sX1_at (w 3) a1) = 117 then
  bnd (sX4_takeTop (w 1)) (fun rn_16 un_16 =>
  bns (sc w 1 un_16) (fun wn_16 =>
  (rn_16, wn_16)))
  else
  (if (sX1_at (w 3) a1) = 119 then
  bnd (sX6_readPiece w a1) (fun rn_18 wn_18 =>
  (rn_18, wn_18))
  else
  (if (sX1_at (w 3) a1) = 121 then
  bnd (sX6_readLayer w a1) (fun rn_20 wn_20 =>
  (rn_20, wn_20))
  else
  (0, w)))))))
def sX6_readStatements_17  : Nat → Int32 → Int32 → Int32 → (Nat → Nat → Nat → Int32) → Int32 × (Nat → Nat → Nat → Int32)
  | 0, _, _, _, _ => (0, (fun _ _ _ => 0))
  | n_17 + 1, x1_17, x2_17, x3_17, w_17 =>
  (if ((w_17 3) 1 0) ≤ x3_17 then
  bns (sX4_become (w_17 0) (w_17 1)) (fun un_4 =>
  bns (sc w_17 0 un_4) (fun wn_4 =>
  (x1_17, wn_4)))
  else
  (if (sX1_at (w_17 3) x3_17) = 59 then
  bnd (sX6_readStatement w_17 x2_17) (fun rn_7 wn_7 =>
  (if rn_7 = 0 then
  ((-2000) - x2_17, wn_7)
  else
  (sX6_readStatements_17 n_17) (x1_17 + 1) (x3_17 + 1) (x3_17 + 1) wn_7))
  else
  (sX6_readStatements_17 n_17) x1_17 x2_17 (x3_17 + 1) w_17))
def sX6_readStatements (w : Nat → Nat → Nat → Int32) : Int32 × (Nat → Nat → Nat → Int32) :=
  bns (sX4_become (w 1) (w 0)) (fun un_1 =>
  bns (sc w 1 un_1) (fun wn_1 =>
  sX6_readStatements_17 97 0 0 0 wn_1))
def sX6_load (w : Nat → Nat → Nat → Int32) : Int32 × (Nat → Nat → Nat → Int32) :=
  (if (sX1_firstOutOfForm (w 3)) < 0 then
  bnd (sX6_readStatements w) (fun rn_3 wn_3 =>
  bns (sX1_clear (wn_3 3)) (fun un_4 =>
  bns (sc wn_3 3 un_4) (fun wn_4 =>
  (rn_3, wn_4))))
  else
  bns (sX1_clear (w 3)) (fun un_5 =>
  bns (sc w 3 un_5) (fun wn_5 =>
  ((-1000) - (sX1_firstOutOfForm (w 3)), wn_5))))
