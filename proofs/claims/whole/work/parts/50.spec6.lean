/-! the texts of the class -/
def lenS : List Nat := [7, 6, 0, 7, 6, 2, 3, 4, 1]
def bytS : List (List Int32) := [[108, 98, 111, 119, 104, 116, 109], [115, 100, 106, 98, 114, 103], [], [76, 48, 48, 48, 43, 48, 59], [48, 80, 48, 48, 48, 59], [48, 59], [48, 48, 59], [48, 63, 63, 59], [59]]
def STR (aK aV : Nat → Nat) (A : Nat → Prop) (U : State) (H : Heap) : Prop := vk_S 9 lenS bytS aK aV A U H ∧ va_Z "java/lang/String" "COMPACT_STRINGS" "Z" (.int 1) A U H ∧ va_Zq "jdk/internal/util/Preconditions" "SIOOBE_FORMATTER" "Ljava/util/function/BiFunction;" A U H ∧ vk_R RX0 9 "lbowhtm" (aK 0) U ∧ vk_R RX2 9 "sdjbrg" (aK 1) U ∧ vk_R RX1 31 "" (aK 2) U ∧ vk_R RX1 51 "L000+0;" (aK 3) U ∧ vk_R RX1 53 "0P000;" (aK 4) U ∧ vk_R RX1 55 "0;" (aK 5) U ∧ vk_R RX1 57 "00;" (aK 6) U ∧ vk_R RX1 59 "0??;" (aK 7) U ∧ vk_R RX1 61 ";" (aK 8) U
theorem STR.warm {aK aV : Nat → Nat} {A : Nat → Prop} {s U : State} {H : Heap} (hW : s.WarmedH U.vm) (h : STR aK aV A s H) : STR aK aV A U H := ⟨vk_S.moved hW.alike h.1, va_Z.moved hW.alike h.2.1, va_Zq.moved hW.alike h.2.2.1, vk_R.warm hW (h.2.2.2.1), vk_R.warm hW (h.2.2.2.2.1), vk_R.warm hW (h.2.2.2.2.2.1), vk_R.warm hW (h.2.2.2.2.2.2.1), vk_R.warm hW (h.2.2.2.2.2.2.2.1), vk_R.warm hW (h.2.2.2.2.2.2.2.2.1), vk_R.warm hW (h.2.2.2.2.2.2.2.2.2.1), vk_R.warm hW (h.2.2.2.2.2.2.2.2.2.2.1), vk_R.warm hW (h.2.2.2.2.2.2.2.2.2.2.2)⟩
theorem STR.same {aK aV : Nat → Nat} {A : Nat → Prop} {u U : State} {H : Heap} (hv : U.vm = u.vm) (h : STR aK aV A u H) : STR aK aV A U H := ⟨vk_S.moved (hv ▸ Vm.Alike.refl _) h.1, va_Z.moved (hv ▸ Vm.Alike.refl _) h.2.1, va_Zq.moved (hv ▸ Vm.Alike.refl _) h.2.2.1, vk_R.same hv (h.2.2.2.1), vk_R.same hv (h.2.2.2.2.1), vk_R.same hv (h.2.2.2.2.2.1), vk_R.same hv (h.2.2.2.2.2.2.1), vk_R.same hv (h.2.2.2.2.2.2.2.1), vk_R.same hv (h.2.2.2.2.2.2.2.2.1), vk_R.same hv (h.2.2.2.2.2.2.2.2.2.1), vk_R.same hv (h.2.2.2.2.2.2.2.2.2.2.1), vk_R.same hv (h.2.2.2.2.2.2.2.2.2.2.2)⟩
theorem STR.kept {aK aV : Nat → Nat} {A : Nat → Prop} {U : State} {H H1 : Heap} (h : STR aK aV A U H) (hq : ∀ a : Nat, a < H.size → ¬ A a → H1[a]? = H[a]?) : STR aK aV A U H1 := ⟨h.1.kept hq, h.2.1.kept hq, h.2.2.1.kept hq, h.2.2.2⟩
theorem STR.narrow {aK aV : Nat → Nat} {A B : Nat → Prop} {U : State} {H : Heap} (h : STR aK aV A U H) (hAB : ∀ q, B q → A q) : STR aK aV B U H := ⟨h.1.narrow hAB, h.2.1.narrow hAB, h.2.2.1.narrow hAB, h.2.2.2⟩
theorem x6_pre {s : State} {H : Heap} {locs : List Loc} {D : va_G} {cI cC cQ : ClassId} {ad : Nat → Nat → Nat} {sd aK aV : Nat → Nat} {w : Nat → Nat → Nat → Int32} {As : List Value} (hK : va_K D vwCl [(cI, .int), (cC, .char), (cQ, .object "LoadedForTheLane$Way")] s) (hP : va_P D vwCl (MWL cI cC cQ ad w) H) (hN : NW s) (hSE : SE sd (MA ad) s s.heap) (hST : STR aK aV (MA ad) s s.heap) (hS : va_S (MA ad) s.heap H locs) : PreV s H RX6 (ad 5 0) (va_Pc (.ref (ad 5 0) :: As) (fun U => va_P D vwCl (MWL cI cC cQ ad w) U.heap ∧ va_K D vwCl [(cI, .int), (cC, .char), (cQ, .object "LoadedForTheLane$Way")] U ∧ NW U ∧ SE sd (MA ad) U U.heap ∧ STR aK aV (MA ad) U U.heap)) As :=
  ⟨fun a U g mk q => by obtain ⟨q0, qP, qK, qN, qE, qT⟩ := q; exact ⟨q0, qP, va_K.moved (u := U) (U := U.calling g mk a) (Vm.Alike.refl U.vm) qK, NW.same (u := U) (U := U.calling g mk a) rfl qN, SE.moved (u := U) (U := U.calling g mk a) (Vm.Alike.refl U.vm) qE, STR.same (u := U) (U := U.calling g mk a) rfl qT⟩, va_recv hK hP (ci := 4) (q0 := 58) rfl rfl, fun U hU hW => ⟨rfl, by rw [hU]; exact hP, va_K.moved hW.alike hK, NW.warm hW hN, by rw [hU]; exact SE.moved hW.alike (hSE.kept hS.2.1), by rw [hU]; exact STR.warm hW (hST.kept hS.2.1)⟩⟩
def sX1_isDigit (a1 : Int32) : Int32 :=
  (if a1 < 48 then
  0
  else
  (if 57 < a1 then
  0
  else
  1))
def sX1_add (w : Nat → Nat → Int32) (a1 : Int32) : Nat → Nat → Int32 :=
  (if 96 ≤ (w 1 0) then
  w
  else
  bns (st w 0 ((w 1 0).toNatClampNeg) (vp_nar .char a1)) (fun wn_4 =>
  bns (st wn_4 1 0 ((wn_4 1 0) + 1)) (fun wn_6 =>
  wn_6)))
def sX1_clear (w : Nat → Nat → Int32) : Nat → Nat → Int32 :=
  bns (st w 1 0 0) (fun wn_1 =>
  wn_1)
def sX1_at (w : Nat → Nat → Int32) (a1 : Int32) : Int32 :=
  (if a1 < 0 then
  0
  else
  (if (w 1 0) ≤ a1 then
  0
  else
  w 0 (a1.toNatClampNeg)))
def sX1_digit (w : Nat → Nat → Int32) (a1 : Int32) : Int32 :=
  (if (sX1_isDigit (sX1_at w a1)) = 0 then
  0
  else
  (sX1_at w a1) - 48)
def sX1_number_5 (w : Nat → Nat → Int32) (a1 : Int32) (a2 : Int32) : Nat → Int32 → Int32 → Int32
  | 0, _, _ => 0
  | n_5 + 1, x3_5, x4_5 =>
  (if a2 ≤ x4_5 then
  x3_5
  else
  (if (sX1_isDigit (sX1_at w (a1 + x4_5))) = 0 then
  x3_5
  else
  (sX1_number_5 w a1 a2 n_5) ((x3_5 * 10) + (sX1_digit w (a1 + x4_5))) (x4_5 + 1)))
def sX1_number (w : Nat → Nat → Int32) (a1 : Int32) (a2 : Int32) : Int32 :=
  sX1_number_5 w a1 a2 4 0 0
def sX6_refuse (w : Nat → Nat → Nat → Int32) (a1 : Int32) : Int32 × (Nat → Nat → Nat → Int32) :=
  (if (-a1) ≤ 0 then
  (a1, w)
  else
  (if 7 ≤ (-a1) then
  (a1, w)
  else
  bns (sc w 5 (st (w 5) 0 ((-a1).toNatClampNeg) ((w 5 0 ((-a1).toNatClampNeg)) + 1))) (fun wn_4 =>
  (a1, wn_4))))
def sX6_refuseWide (w : Nat → Nat → Nat → Int32) (a1 : Int32) : Int32 × (Nat → Nat → Nat → Int32) :=
  bnd (sX6_refuse w a1) (fun rn_1 wn_1 =>
  (1000000000 - rn_1, wn_1))
def sX6_refuseLong (w : Nat → Nat → Nat → Int32) (a1 : Int32) : Int64 × (Nat → Nat → Nat → Int32) :=
  bnd (sX6_refuse w a1) (fun rn_1 wn_1 =>
  (4000000000000000000 - rn_1.toInt64, wn_1))
def sX6_commonDivisor_3 (a1 : Int32) : Nat → Int32 → Int32
  | 0, _ => 0
  | n_3 + 1, x1_3 =>
  (if x1_3 ≤ 1 then
  1
  else
  (if (10 - 10 / x1_3 * x1_3) = 0 then
  (if (a1 - a1 / x1_3 * x1_3) = 0 then
  x1_3
  else
  bns (x1_3 + (-1)) (fun xn_5 =>
  (sX6_commonDivisor_3 a1 n_3) xn_5))
  else
  bns (x1_3 + (-1)) (fun xn_3 =>
  (sX6_commonDivisor_3 a1 n_3) xn_3)))
def sX6_commonDivisor (a1 : Int32) : Int32 :=
  sX6_commonDivisor_3 a1 11 10
def sX6_power_5 (a1 : Int32) (a2 : Int32) : Nat → Int64 → Int32 → Int64
  | 0, _, _ => 0
  | n_5 + 1, x2_5, x4_5 =>
  (if a2 ≤ x4_5 then
  x2_5
  else
  (sX6_power_5 a1 a2 n_5) (x2_5 * a1.toInt64) (x4_5 + 1))
def sX6_power (a1 : Int32) (a2 : Int32) : Int64 :=
  sX6_power_5 a1 a2 13 1 0
def sX6_letter (w : Nat → Nat → Nat → Int32) (a1 : Int32) : Int32 × (Nat → Nat → Nat → Int32) :=
  (if 0 ≤ a1 then
  (if 255 < a1 then
  bnd (sX6_refuse w (-6)) (fun rn_3 wn_3 =>
  (rn_3, wn_3))
  else
  (if ((w 3) 1 0) < 96 then
  bns (sX1_add (w 3) ((a1.toUInt32 % 65536).toInt32)) (fun un_6 =>
  bns (sc w 3 un_6) (fun wn_6 =>
  ((wn_6 3) 1 0, wn_6)))
  else
  bnd (sX6_refuse w (-6)) (fun rn_8 wn_8 =>
  (rn_8, wn_8))))
  else
  bnd (sX6_refuse w (-4)) (fun rn_9 wn_9 =>
  (rn_9, wn_9)))
def sX6_layer (w : Nat → Nat → Nat → Int32) (a1 : Int32) (a2 : Int32) : Int32 × (Nat → Nat → Nat → Int32) :=
  (if (sX4_hasLayer (w 0) a1) = 0 then
  bnd (sX6_refuseWide w (-1)) (fun rn_21 wn_21 =>
  (rn_21, wn_21))
  else
  (if a2 = 0 then
  ((w 0) 0 (a1.toNatClampNeg), w)
  else
  (if a2 = 1 then
  ((w 0) 1 (a1.toNatClampNeg), w)
  else
  (if a2 = 2 then
  ((w 0) 2 (a1.toNatClampNeg), w)
  else
  (if a2 = 3 then
  ((w 0) 3 (a1.toNatClampNeg), w)
  else
  (if a2 = 4 then
  ((sX4_weightOf (w 0) a1), w)
  else
  (if a2 = 5 then
  ((w 0) 4 (a1.toNatClampNeg), w)
  else
  (if a2 = 6 then
  ((sX0_thickness ((w 0) 0 (a1.toNatClampNeg))), w)
  else
  (if a2 = 7 then
  ((w 0) 5 (a1.toNatClampNeg), w)
  else
  bnd (sX6_refuseWide w (-2)) (fun rn_3 wn_3 =>
  (rn_3, wn_3)))))))))))
def sX6_piece (w : Nat → Nat → Nat → Int32) (a1 : Int32) (a2 : Int32) (a3 : Int32) : Int32 × (Nat → Nat → Nat → Int32) :=
  (if (sX4_hasPiece (w 0) a1 a2) = 0 then
  bnd (sX6_refuse w (-1)) (fun rn_13 wn_13 =>
  (rn_13, wn_13))
  else
  (if a3 = 0 then
  ((w 0) (10 + 4 * (a1.toNatClampNeg)) (a2.toNatClampNeg), w)
  else
  (if a3 = 1 then
  ((w 0) (11 + 4 * (a1.toNatClampNeg)) (a2.toNatClampNeg), w)
  else
  (if a3 = 2 then
  ((w 0) (12 + 4 * (a1.toNatClampNeg)) (a2.toNatClampNeg), w)
  else
  bnd (sX6_refuse w (-2)) (fun rn_3 wn_3 =>
  (rn_3, wn_3))))))
def sX6_off (w : Nat → Nat → Nat → Int32) : Int32 × (Nat → Nat → Nat → Int32) :=
  bnd (sX4_takeTop (w 0)) (fun rn_1 un_1 =>
  bns (sc w 0 un_1) (fun wn_1 =>
  (if rn_1 = 0 then
  bnd (sX6_refuse wn_1 (-3)) (fun rn_4 wn_4 =>
  (rn_4, wn_4))
  else
  ((wn_1 0) 6 0, wn_1))))
def sX6_out (w : Nat → Nat → Nat → Int32) (a1 : Int32) (a2 : Int32) : Int32 × (Nat → Nat → Nat → Int32) :=
  (if (sX4_hasLayer (w 0) a1) = 0 then
  bnd (sX6_refuse w (-1)) (fun rn_9 wn_9 =>
  (rn_9, wn_9))
  else
  (if 0 ≤ a2 then
  (if a2 ≤ 9 then
  bns (sc w 0 (st (w 0) 2 (a1.toNatClampNeg) a2)) (fun wn_6 =>
  ((w 0) 2 (a1.toNatClampNeg), wn_6))
  else
  bnd (sX6_refuse w (-6)) (fun rn_7 wn_7 =>
  (rn_7, wn_7)))
  else
  bnd (sX6_refuse w (-4)) (fun rn_8 wn_8 =>
  (rn_8, wn_8))))
def sX6_set (w : Nat → Nat → Nat → Int32) (a1 : Int32) (a2 : Int32) : Int32 × (Nat → Nat → Nat → Int32) :=
  (if a1 < 0 then
  bnd (sX6_refuse w (-2)) (fun rn_2 wn_2 =>
  (rn_2, wn_2))
  else
  (if a1 ≤ 3 then
  (if (leastS (a1.toNatClampNeg)) ≤ a2 then
  (if a2 ≤ (mostS (a1.toNatClampNeg)) then
  bns (sc w 0 (st (w 0) 7 (a1.toNatClampNeg) a2)) (fun wn_9 =>
  ((w 0) 7 (a1.toNatClampNeg), wn_9))
  else
  bnd (sX6_refuse w (-6)) (fun rn_10 wn_10 =>
  (rn_10, wn_10)))
  else
  bnd (sX6_refuse w (-4)) (fun rn_11 wn_11 =>
  (rn_11, wn_11)))
  else
  bnd (sX6_refuse w (-2)) (fun rn_12 wn_12 =>
  (rn_12, wn_12))))
def sX6_shift (w : Nat → Nat → Nat → Int32) (a1 : Int32) (a2 : Int32) (a3 : Int32) : Int32 × (Nat → Nat → Nat → Int32) :=
  (if (sX4_hasPiece (w 0) a1 a2) = 0 then
  bnd (sX6_refuse w (-1)) (fun rn_3 wn_3 =>
  (rn_3, wn_3))
  else
  (if (sX4_hasLayer (w 0) a3) = 0 then
  bnd (sX6_refuse w (-1)) (fun rn_7 wn_7 =>
  (rn_7, wn_7))
  else
  ((sX4_shiftOf (w 0) a1 a2 a3), w)))
def sX6_slips (w : Nat → Nat → Nat → Int32) (a1 : Int32) (a2 : Int32) : Int32 × (Nat → Nat → Nat → Int32) :=
  (if (sX4_hasWay (w 0) a1) = 0 then
  bnd (sX6_refuse w (-1)) (fun rn_11 wn_11 =>
  (rn_11, wn_11))
  else
  (if a2 < 0 then
  bnd (sX6_refuse w (-2)) (fun rn_4 wn_4 =>
  (rn_4, wn_4))
  else
  (if a2 ≤ 1 then
  (if 0 ≤ (sX4_pieceOfSlip (w 0) a1) then
  (if a2 = 0 then
  ((sX4_pieceOfSlip (w 0) a1), w)
  else
  ((sX4_layerOfSlip (w 0) a1 (sX4_pieceOfSlip (w 0) a1)), w))
  else
  ((-9), w))
  else
  bnd (sX6_refuse w (-2)) (fun rn_10 wn_10 =>
  (rn_10, wn_10)))))
def sX6_margin (w : Nat → Nat → Nat → Int32) (a1 : Int32) : Int32 × (Nat → Nat → Nat → Int32) :=
  (if (sX4_hasWay (w 0) a1) = 0 then
  bnd (sX6_refuseWide w (-1)) (fun rn_4 wn_4 =>
  (rn_4, wn_4))
  else
  ((sX4_leastMargin (w 0) a1), w))
def sX6_high_36 (a1 : Int32) : Nat → Int32 → (Nat → Nat → Nat → Int32) → Int32 × (Nat → Nat → Nat → Int32)
  | 0, _, _ => (0, (fun _ _ _ => 0))
  | n_36 + 1, x2_36, w_36 =>
  (if x2_36 ≤ 0 then
  (0, w_36)
  else
  (if (sX4_holds (w_36 1) a1) = 0 then
  bnd (sX4_takeTop (w_36 1)) (fun rn_8 un_8 =>
  bns (sc w_36 1 un_8) (fun wn_8 =>
  bns (x2_36 + (-1)) (fun xn_9 =>
  (sX6_high_36 a1 n_36) xn_9 wn_8)))
  else
  (x2_36, w_36)))
def sX6_high (w : Nat → Nat → Nat → Int32) (a1 : Int32) : Int32 × (Nat → Nat → Nat → Int32) :=
  (if (sX4_hasWay (w 0) a1) = 0 then
  bnd (sX6_refuse w (-1)) (fun rn_10 wn_10 =>
  (rn_10, wn_10))
  else
  bns (sX4_become (w 1) (w 0)) (fun un_3 =>
  bns (sc w 1 un_3) (fun wn_3 =>
  sX6_high_36 a1 13 ((wn_3 0) 6 0) wn_3)))
def sX6_more (w : Nat → Nat → Nat → Int32) (a1 : Int32) : Int32 × (Nat → Nat → Nat → Int32) :=
  (if (sX4_hasWay (w 0) a1) = 0 then
  bnd (sX6_refuse w (-1)) (fun rn_15 wn_15 =>
  (rn_15, wn_15))
  else
  (if (sX4_hasLayer (w 0) (((w 0) 6 0) - 1)) = 0 then
  bnd (sX6_refuse w (-3)) (fun rn_14 wn_14 =>
  (rn_14, wn_14))
  else
  bns (sX4_become (w 1) (w 0)) (fun un_6 =>
  bns (sc w 1 un_6) (fun wn_6 =>
  bnd (sX4_lay (wn_6 1) ((wn_6 0) 0 ((((w 0) 6 0) - 1).toNatClampNeg)) ((wn_6 0) 1 ((((w 0) 6 0) - 1).toNatClampNeg)) ((wn_6 0) 2 ((((w 0) 6 0) - 1).toNatClampNeg)) ((wn_6 0) 3 ((((w 0) 6 0) - 1).toNatClampNeg))) (fun rn_11 un_11 =>
  bns (sc wn_6 1 un_11) (fun wn_11 =>
  (if (sX4_holds (wn_11 1) a1) = 0 then
  (0, wn_11)
  else
  (1, wn_11))))))))
def sX6_farOut_42 (a1 : Int32) (a2 : Int32) : Nat → Int32 → (Nat → Nat → Nat → Int32) → Int32 × (Nat → Nat → Nat → Int32)
  | 0, _, _ => (0, (fun _ _ _ => 0))
  | n_42 + 1, x3_42, w_42 =>
  (if x3_42 < 0 then
  ((-9), w_42)
  else
  bns (sc w_42 1 (st (w_42 1) 2 (a2.toNatClampNeg) x3_42)) (fun wn_8 =>
  (if (sX4_holds (wn_8 1) a1) = 0 then
  bns (x3_42 + (-1)) (fun xn_11 =>
  (sX6_farOut_42 a1 a2 n_42) xn_11 wn_8)
  else
  (x3_42, wn_8))))
def sX6_farOut (w : Nat → Nat → Nat → Int32) (a1 : Int32) (a2 : Int32) : Int32 × (Nat → Nat → Nat → Int32) :=
  (if (sX4_hasWay (w 0) a1) = 0 then
  bnd (sX6_refuse w (-1)) (fun rn_3 wn_3 =>
  (rn_3, wn_3))
  else
  (if (sX4_hasLayer (w 0) a2) = 0 then
  bnd (sX6_refuse w (-1)) (fun rn_12 wn_12 =>
  (rn_12, wn_12))
  else
  bns (sX4_become (w 1) (w 0)) (fun un_6 =>
  bns (sc w 1 un_6) (fun wn_6 =>
  sX6_farOut_42 a1 a2 11 9 wn_6))))
def sX6_leaning_27 (a1 : Int32) : Nat → Int32 → Int32 → Int32 → (Nat → Nat → Nat → Int32) → Int32 × (Nat → Nat → Nat → Int32)
  | 0, _, _, _, _ => (0, (fun _ _ _ => 0))
  | n_27 + 1, x2_27, x3_27, x4_27, w_27 =>
  (if 5 < x4_27 then
  (x2_27, w_27)
  else
  bns (sX4_become (w_27 1) (w_27 0)) (fun un_4 =>
  bns (sc w_27 1 un_4) (fun wn_4 =>
  bns (sX4_leanMore (wn_4 1) x4_27) (fun un_5 =>
  bns (sc wn_4 1 un_5) (fun wn_5 =>
  (if (sX4_leastMargin (wn_5 1) a1) ≤ x3_27 then
  (sX6_leaning_27 a1 n_27) x2_27 x3_27 (x4_27 + 1) wn_5
  else
  (sX6_leaning_27 a1 n_27) x4_27 ((sX4_leastMargin (wn_5 1) a1)) (x4_27 + 1) wn_5))))))
def sX6_leaning (w : Nat → Nat → Nat → Int32) (a1 : Int32) : Int32 × (Nat → Nat → Nat → Int32) :=
  (if (sX4_hasWay (w 0) a1) = 0 then
  bnd (sX6_refuseWide w (-1)) (fun rn_8 wn_8 =>
  (rn_8, wn_8))
  else
  sX6_leaning_27 a1 12 ((-5)) ((-2147483648)) ((-5)) w)
def sX6_enough_30 (a1 : Int32) : Nat → Int32 → (Nat → Nat → Nat → Int32) → Int32 × (Nat → Nat → Nat → Int32)
  | 0, _, _ => (0, (fun _ _ _ => 0))
  | n_30 + 1, x2_30, w_30 =>
  (if (mostS 0) < x2_30 then
  ((-9), w_30)
  else
  bns (sc w_30 1 (st (w_30 1) 7 0 x2_30)) (fun wn_6 =>
  (if (sX4_holds (wn_6 1) a1) = 0 then
  (sX6_enough_30 a1 n_30) (x2_30 + 1) wn_6
  else
  (x2_30, wn_6))))
def sX6_enough (w : Nat → Nat → Nat → Int32) (a1 : Int32) : Int32 × (Nat → Nat → Nat → Int32) :=
  (if (sX4_hasWay (w 0) a1) = 0 then
  bnd (sX6_refuse w (-1)) (fun rn_9 wn_9 =>
  (rn_9, wn_9))
  else
  bns (sX4_become (w 1) (w 0)) (fun un_3 =>
  bns (sc w 1 un_3) (fun wn_3 =>
  sX6_enough_30 a1 7 0 wn_3)))
def sX6_minutesHome (w : Nat → Nat → Nat → Int32) (a1 : Int32) : Int32 :=
  (if (sX4_holds (w 0) a1) = 0 then
  (-9)
  else
  (sX5_allMinutes (wy (w 0) (a1.toNatClampNeg))))
def sX6_home (w : Nat → Nat → Nat → Int32) (a1 : Int32) : Int32 × (Nat → Nat → Nat → Int32) :=
  (if (sX4_hasWay (w 0) a1) = 0 then
  bnd (sX6_refuse w (-1)) (fun rn_4 wn_4 =>
  (rn_4, wn_4))
  else
  ((sX6_minutesHome w a1), w))
def sX6_which (w : Nat → Nat → Nat → Int32) : Int32 :=
  (if (sX6_minutesHome w 0) = (-9) then
  (if (sX6_minutesHome w 1) = (-9) then
  (-9)
  else
  1)
  else
  (if (sX6_minutesHome w 1) = (-9) then
  0
  else
  (if (sX6_minutesHome w 1) < (sX6_minutesHome w 0) then
  1
  else
  0)))
def sX6_pitching (w : Nat → Nat → Nat → Int32) (a1 : Int32) : Int32 × (Nat → Nat → Nat → Int32) :=
  (if (leastS 2) ≤ a1 then
  (if a1 ≤ (mostS 2) then
  ((sX4_pitchingMinutes (w 0) a1), w)
  else
  bnd (sX6_refuse w (-6)) (fun rn_6 wn_6 =>
  (rn_6, wn_6)))
  else
  bnd (sX6_refuse w (-4)) (fun rn_7 wn_7 =>
  (rn_7, wn_7)))
def sX6_quick_30 (a1 : Int32) : Nat → Int32 → Int32 → Int32 → (Nat → Nat → Nat → Int32) → Int32 × (Nat → Nat → Nat → Int32)
  | 0, _, _, _, _ => (0, (fun _ _ _ => 0))
  | n_30 + 1, x2_30, x3_30, x4_30, w_30 =>
  (if (mostS 2) < x4_30 then
  (x2_30, w_30)
  else
  bns (sX4_become (w_30 1) (w_30 0)) (fun un_6 =>
  bns (sc w_30 1 un_6) (fun wn_6 =>
  bns (sX4_layBadly (wn_6 1) (if 0 < x4_30 - ((wn_6 0) 7 1) then x4_30 - ((wn_6 0) 7 1) else 0)) (fun un_8 =>
  bns (sc wn_6 1 un_8) (fun wn_8 =>
  (if x3_30 ≤ (sX4_pitchingMinutes (wn_8 0) x4_30) then
  (sX6_quick_30 a1 n_30) x2_30 x3_30 (x4_30 + 1) wn_8
  else
  (if (sX4_holds (wn_8 1) a1) = 0 then
  (sX6_quick_30 a1 n_30) x2_30 x3_30 (x4_30 + 1) wn_8
  else
  (sX6_quick_30 a1 n_30) x4_30 ((sX4_pitchingMinutes (wn_8 0) x4_30)) (x4_30 + 1) wn_8)))))))
def sX6_quick (w : Nat → Nat → Nat → Int32) (a1 : Int32) : Int32 × (Nat → Nat → Nat → Int32) :=
  (if (sX4_hasWay (w 0) a1) = 0 then
  bnd (sX6_refuse w (-1)) (fun rn_13 wn_13 =>
  (rn_13, wn_13))
  else
  sX6_quick_30 a1 10 ((-9)) 2147483647 (leastS 2) w)
def sX6_refusalOfRounds (w : Nat → Nat → Nat → Int32) (a1 : Int32) (a2 : Int32) (a3 : Int32) (a4 : Int32) : Int32 :=
  (if (sX4_hasWay (w 0) a1) = 0 then
  (-1)
  else
  (if a2 < 1 then
  (-4)
  else
  (if 0 ≤ a3 then
  (if a4 < a2 then
  (-6)
  else
  (if a3 ≤ 999 then
  (if ((w 0) 6 0) = 0 then
  (-3)
  else
  (if (sX4_holds (w 0) a1) = 0 then
  (-3)
  else
  0))
  else
  (-6)))
  else
  (-4))))
def sX6_rounds (w : Nat → Nat → Nat → Int32) (a1 : Int32) (a2 : Int32) (a3 : Int32) : Int32 × (Nat → Nat → Nat → Int32) :=
  (if (sX6_refusalOfRounds w a1 a2 a3 4) = 0 then
  bnd (sX4_sheavesHome (w 0) a1 a2 a3) (fun rn_3 un_3 =>
  bns (sc w 0 un_3) (fun wn_3 =>
  (rn_3, wn_3)))
  else
  bnd (sX6_refuse w (sX6_refusalOfRounds w a1 a2 a3 4)) (fun rn_4 wn_4 =>
  (rn_4, wn_4)))
def sX6_worth (w : Nat → Nat → Nat → Int32) (a1 : Int32) (a2 : Int32) (a3 : Int32) : Int32 × (Nat → Nat → Nat → Int32) :=
  (if (sX6_refusalOfRounds w a1 a2 a3 3) = 0 then
  bnd (sX4_sheavesHome (w 0) a1 (a2 + 1) a3) (fun rn_3 un_3 =>
  bns (sc w 0 un_3) (fun wn_3 =>
  bnd (sX4_sheavesHome (wn_3 0) a1 a2 a3) (fun rn_4 un_4 =>
  bns (sc wn_3 0 un_4) (fun wn_4 =>
  (rn_3 - rn_4, wn_4)))))
  else
  bnd (sX6_refuseWide w (sX6_refusalOfRounds w a1 a2 a3 3)) (fun rn_5 wn_5 =>
  (rn_5, wn_5)))
def sX6_thunder (w : Nat → Nat → Nat → Int32) (a1 : Int32) (a2 : Int32) (a3 : Int32) : Int64 × (Nat → Nat → Nat → Int32) :=
  (if (sX4_hasWay (w 0) a1) = 0 then
  bnd (sX6_refuseLong w (-1)) (fun rn_17 wn_17 =>
  (rn_17, wn_17))
  else
  (if 0 ≤ a2 then
  (if a2 ≤ 9 then
  (if a3 < 0 then
  bnd (sX6_refuseLong w (-2)) (fun rn_6 wn_6 =>
  (rn_6, wn_6))
  else
  (if a3 ≤ 1 then
  (if a3 = 0 then
  ((sX6_power ((10 - a2) / (sX6_commonDivisor (10 - a2))) (if (sX5_allMinutes (wy (w 0) (a1.toNatClampNeg))) < 12 then (sX5_allMinutes (wy (w 0) (a1.toNatClampNeg))) else 12)), w)
  else
  ((sX6_power (10 / (sX6_commonDivisor (10 - a2))) (if (sX5_allMinutes (wy (w 0) (a1.toNatClampNeg))) < 12 then (sX5_allMinutes (wy (w 0) (a1.toNatClampNeg))) else 12)), w))
  else
  bnd (sX6_refuseLong w (-2)) (fun rn_14 wn_14 =>
  (rn_14, wn_14))))
  else
  bnd (sX6_refuseLong w (-6)) (fun rn_15 wn_15 =>
  (rn_15, wn_15)))
  else
  bnd (sX6_refuseLong w (-4)) (fun rn_16 wn_16 =>
  (rn_16, wn_16))))
def sX6_fell_23 (w : Nat → Nat → Nat → Int32) (a1 : Int32) (a2 : Int32) : Nat → Int32 → Int32 → Int32 × (Nat → Nat → Nat → Int32)
  | 0, _, _ => (0, (fun _ _ _ => 0))
  | n_23 + 1, x3_23, x4_23 =>
  (if ((w 0) 6 0) ≤ x4_23 then
  (x3_23, w)
  else
  (if (sX4_slipsAt (w 0) a1 a2 x4_23) = 0 then
  (sX6_fell_23 w a1 a2 n_23) x3_23 (x4_23 + 1)
  else
  (sX6_fell_23 w a1 a2 n_23) (x3_23 ||| (1 <<< (x4_23 &&& 31))) (x4_23 + 1)))
def sX6_fell (w : Nat → Nat → Nat → Int32) (a1 : Int32) (a2 : Int32) : Int32 × (Nat → Nat → Nat → Int32) :=
  (if (sX4_hasPiece (w 0) a1 a2) = 0 then
  bnd (sX6_refuse w (-1)) (fun rn_7 wn_7 =>
  (rn_7, wn_7))
  else
  sX6_fell_23 w a1 a2 13 0 0)
def sX6_whose_28 (w : Nat → Nat → Nat → Int32) (a1 : Int32) (a2 : Int32) : Nat → Int32 → Int32 → Int32 → Int32 × (Nat → Nat → Nat → Int32)
  | 0, _, _, _ => (0, (fun _ _ _ => 0))
  | n_28 + 1, x3_28, x4_28, x5_28 =>
  (if ((w 0) 6 0) ≤ x5_28 then
  (x3_28, w)
  else
  (if (sX4_slipsAt (w 0) a1 a2 x5_28) = 0 then
  (sX6_whose_28 w a1 a2 n_28) x3_28 x4_28 (x5_28 + 1)
  else
  (if x4_28 ≤ ((sX4_shiftOf (w 0) a1 a2 x5_28) - (sX4_strengthOf (w 0) x5_28)) then
  (sX6_whose_28 w a1 a2 n_28) x3_28 x4_28 (x5_28 + 1)
  else
  (sX6_whose_28 w a1 a2 n_28) x5_28 ((sX4_shiftOf (w 0) a1 a2 x5_28) - (sX4_strengthOf (w 0) x5_28)) (x5_28 + 1))))
def sX6_whose (w : Nat → Nat → Nat → Int32) (a1 : Int32) (a2 : Int32) : Int32 × (Nat → Nat → Nat → Int32) :=
  (if (sX4_hasPiece (w 0) a1 a2) = 0 then
  bnd (sX6_refuse w (-1)) (fun rn_10 wn_10 =>
  (rn_10, wn_10))
  else
  sX6_whose_28 w a1 a2 13 ((-9)) 2147483647 0)
def sX6_boundBy (w : Nat → Nat → Nat → Int32) (a1 : Int32) (a2 : Int32) : Int32 × (Nat → Nat → Nat → Int32) :=
  (if 0 ≤ a1 then
  (if a1 ≤ 999 then
  (if a2 < 0 then
  bnd (sX6_refuse w (-2)) (fun rn_4 wn_4 =>
  (rn_4, wn_4))
  else
  (if a2 ≤ 1 then
  (if (sX3_isOfTrials (w 4)) = 0 then
  bnd (sX6_refuse w (-3)) (fun rn_11 wn_11 =>
  (rn_11, wn_11))
  else
  (if a2 = 0 then
  ((sX3_leastBinding (w 4) a1), w)
  else
  ((sX3_greatestBinding (w 4) a1), w)))
  else
  bnd (sX6_refuse w (-2)) (fun rn_12 wn_12 =>
  (rn_12, wn_12))))
  else
  bnd (sX6_refuse w (-6)) (fun rn_13 wn_13 =>
  (rn_13, wn_13)))
  else
  bnd (sX6_refuse w (-4)) (fun rn_14 wn_14 =>
  (rn_14, wn_14)))
def sX6_row (w : Nat → Nat → Nat → Int32) (a1 : Int32) : Int32 × (Nat → Nat → Nat → Int32) :=
  (if 0 ≤ a1 then
  (if 99 < a1 then
  bnd (sX6_refuse w (-6)) (fun rn_3 wn_3 =>
  (rn_3, wn_3))
  else
  (if ((w 4) 1 0) < 12 then
  bns (sX3_add (w 4) a1) (fun un_6 =>
  bns (sc w 4 un_6) (fun wn_6 =>
  ((wn_6 4) 1 0, wn_6)))
  else
  bnd (sX6_refuse w (-6)) (fun rn_8 wn_8 =>
  (rn_8, wn_8))))
  else
  bnd (sX6_refuse w (-4)) (fun rn_9 wn_9 =>
  (rn_9, wn_9)))
def sX6_slipAsTold (w : Nat → Nat → Nat → Int32) (a1 : Int32) : Int32 :=
  (if 0 ≤ (sX4_pieceOfSlip (w 1) a1) then
  (sX4_layerOfSlip (w 1) a1 (sX4_pieceOfSlip (w 1) a1))
  else
  99)
def sX6_judge_33 (a1 : Int32) : Nat → Int32 → Int32 → (Nat → Nat → Nat → Int32) → Int32 × (Nat → Nat → Nat → Int32)
  | 0, _, _, _ => (0, (fun _ _ _ => 0))
  | n_33 + 1, x2_33, x3_33, w_33 =>
  (if ((w_33 4) 1 0) ≤ x3_33 then
  bns (sX3_clear (w_33 4)) (fun un_6 =>
  bns (sc w_33 4 un_6) (fun wn_6 =>
  (x2_33, wn_6)))
  else
  (if x2_33 = (-9) then
  bns (sc w_33 1 (st (w_33 1) 7 0 x3_33)) (fun wn_9 =>
  (if ((wn_9 4) 0 (x3_33.toNatClampNeg)) = (sX6_slipAsTold wn_9 a1) then
  (sX6_judge_33 a1 n_33) x2_33 (x3_33 + 1) wn_9
  else
  (sX6_judge_33 a1 n_33) x3_33 (x3_33 + 1) wn_9))
  else
  bns (sX3_clear (w_33 4)) (fun un_8 =>
  bns (sc w_33 4 un_8) (fun wn_8 =>
  (x2_33, wn_8)))))
def sX6_judge (w : Nat → Nat → Nat → Int32) (a1 : Int32) : Int32 × (Nat → Nat → Nat → Int32) :=
  (if (sX4_hasWay (w 0) a1) = 0 then
  bnd (sX6_refuse w (-1)) (fun rn_13 wn_13 =>
  (rn_13, wn_13))
  else
  bns (sX4_become (w 1) (w 0)) (fun un_3 =>
  bns (sc w 1 un_3) (fun wn_3 =>
  sX6_judge_33 a1 13 ((-9)) 0 wn_3)))
def sX6_lots_62 (a1 : Int32) (a2 : Int32) : Nat → Int32 → Int32 → Int32 → (Nat → Nat → Nat → Int32) → Int32 × (Nat → Nat → Nat → Int32)
  | 0, _, _, _, _ => (0, (fun _ _ _ => 0))
  | n_62 + 1, x4_62, x5_62, x6_62, w_62 =>
  (if a2 ≤ x6_62 then
  (x5_62, w_62)
  else
  bnd (sX4_layByLot (w_62 1) x4_62) (fun rn_7 un_7 =>
  bns (sc w_62 1 un_7) (fun wn_7 =>
  (if (sX4_holds (wn_7 1) a1) = 0 then
  (sX6_lots_62 a1 a2 n_62) rn_7 x5_62 (x6_62 + 1) wn_7
  else
  (sX6_lots_62 a1 a2 n_62) rn_7 (x5_62 + 1) (x6_62 + 1) wn_7))))
def sX6_lots (w : Nat → Nat → Nat → Int32) (a1 : Int32) (a2 : Int32) (a3 : Int32) : Int32 × (Nat → Nat → Nat → Int32) :=
  (if (sX4_hasWay (w 0) a1) = 0 then
  bnd (sX6_refuse w (-1)) (fun rn_12 wn_12 =>
  (rn_12, wn_12))
  else
  (if 1 ≤ a2 then
  (if a2 ≤ 30 then
  bns (sX4_become (w 1) (w 0)) (fun un_5 =>
  bns (sc w 1 un_5) (fun wn_5 =>
  sX6_lots_62 a1 a2 31 a3 0 0 wn_5))
  else
  bnd (sX6_refuse w (-6)) (fun rn_10 wn_10 =>
  (rn_10, wn_10)))
  else
  bnd (sX6_refuse w (-4)) (fun rn_11 wn_11 =>
  (rn_11, wn_11))))
def sX6_image (w : Nat → Nat → Nat → Int32) : Int32 × (Nat → Nat → Nat → Int32) :=
  bns (sX4_become (w 2) (w 0)) (fun un_1 =>
  bns (sc w 2 un_1) (fun wn_1 =>
  bns (sc wn_1 5 (st (wn_1 5) 1 0 1)) (fun wn_2 =>
  ((wn_2 0) 6 0, wn_2))))
def sX6_on (w : Nat → Nat → Nat → Int32) : Int32 × (Nat → Nat → Nat → Int32) :=
  (if (w 5 1 0) = 0 then
  bnd (sX6_refuse w (-3)) (fun rn_4 wn_4 =>
  (rn_4, wn_4))
  else
  bns (sX4_become (w 0) (w 2)) (fun un_2 =>
  bns (sc w 0 un_2) (fun wn_2 =>
  ((wn_2 0) 6 0, wn_2))))
def sX6_count (w : Nat → Nat → Nat → Int32) (a1 : Int32) : Int32 :=
  (if a1 = 0 then
  (w 0) 6 0
  else
  (if a1 = 1 then
  (w 0) (13 + 4 * 0) 0
  else
  (if a1 = 2 then
  (w 0) (13 + 4 * 1) 0
  else
  (if a1 = 3 then
  (sX4_height (w 0))
  else
  (if a1 = 4 then
  (sX4_width (w 0))
  else
  (if a1 = 5 then
  (sX4_allWeight (w 0))
  else
  (if a1 = 6 then
  (sX4_allSheaves (w 0))
  else
  (if a1 = 7 then
  (w 0) 7 0
  else
  (if a1 = 8 then
  (w 4) 1 0
  else
  (if a1 = 9 then
  (w 3) 1 0
  else
  (if a1 < 11 then
  (-9)
  else
  (if 16 < a1 then
  (-9)
  else
  w 5 0 ((a1 - 10).toNatClampNeg)))))))))))))
/-! what the walks of the whole object need -/
def R1I (w : Nat → Nat → Int32) : Prop := (0 ≤ (w 1 0).toInt ∧ (w 1 0).toInt ≤ 96) ∧ ∀ j, 0 ≤ (w 0 j).toInt ∧ (w 0 j).toInt < 65536
theorem R1I_size {w : Nat → Nat → Int32} (h : R1I w) : 0 ≤ (w 1 0).toInt ∧ (w 1 0).toInt ≤ 96 := h.1
theorem R1I_put {w : Nat → Nat → Int32} (h : R1I w) {x : Int32} (h1 : 0 ≤ x.toInt) (h2 : x.toInt ≤ 96) : R1I (st w 1 0 x) := ⟨⟨h1, h2⟩, h.2⟩
theorem nar_char (x : Int32) : 0 ≤ (vp_nar .char x).toInt ∧ (vp_nar .char x).toInt < 65536 := by
  show 0 ≤ (x.toUInt32.toUInt16.toUInt32.toInt32).toInt ∧ (x.toUInt32.toUInt16.toUInt32.toInt32).toInt < 65536
  rw [u16i]
  have h := (x.toUInt32.toUInt16).toNat_lt
  omega
theorem R1I_arr {w : Nat → Nat → Int32} (h : R1I w) {j : Nat} {x : Int32} : R1I (st w 0 j (vp_nar .char x)) := ⟨h.1, fun i => by
  rw [st_s]; unfold upd
  split
  · exact nar_char x
  · exact h.2 i⟩
def R6I (w : Nat → Nat → Nat → Int32) : Prop := R4I (w 0) ∧ R4I (w 1) ∧ R4I (w 2) ∧ R1I (w 3) ∧ R3I (w 4)
theorem R6I_0 {w : Nat → Nat → Nat → Int32} (h : R6I w) : R4I (w 0) := h.1
theorem R6I_1 {w : Nat → Nat → Nat → Int32} (h : R6I w) : R4I (w 1) := h.2.1
theorem R6I_2 {w : Nat → Nat → Nat → Int32} (h : R6I w) : R4I (w 2) := h.2.2.1
theorem R6I_3 {w : Nat → Nat → Nat → Int32} (h : R6I w) : R1I (w 3) := h.2.2.2.1
theorem R6I_4 {w : Nat → Nat → Nat → Int32} (h : R6I w) : R3I (w 4) := h.2.2.2.2
theorem R6I_up0 {w : Nat → Nat → Nat → Int32} (h : R6I w) {v : Nat → Nat → Int32} (hv : R4I v) : R6I (sc w 0 v) := ⟨hv, h.2⟩
theorem R6I_up1 {w : Nat → Nat → Nat → Int32} (h : R6I w) {v : Nat → Nat → Int32} (hv : R4I v) : R6I (sc w 1 v) := ⟨h.1, hv, h.2.2⟩
theorem R6I_up2 {w : Nat → Nat → Nat → Int32} (h : R6I w) {v : Nat → Nat → Int32} (hv : R4I v) : R6I (sc w 2 v) := ⟨h.1, h.2.1, hv, h.2.2.2⟩
theorem R6I_up3 {w : Nat → Nat → Nat → Int32} (h : R6I w) {v : Nat → Nat → Int32} (hv : R1I v) : R6I (sc w 3 v) := ⟨h.1, h.2.1, h.2.2.1, hv, h.2.2.2.2⟩
theorem R6I_up4 {w : Nat → Nat → Nat → Int32} (h : R6I w) {v : Nat → Nat → Int32} (hv : R3I v) : R6I (sc w 4 v) := ⟨h.1, h.2.1, h.2.2.1, h.2.2.2.1, hv⟩
theorem R6I_5 {w : Nat → Nat → Nat → Int32} (h : R6I w) {v : Nat → Nat → Int32} : R6I (sc w 5 v) := h
theorem R6I_way1 {w : Nat → Nat → Nat → Int32} (h : R6I w) {k : Nat} {y : Nat → Nat → Int32} (hk : k < 2) (hy : R5I y) : R6I (sc w 1 (swy (w 1) k y)) := R6I_up1 h (R4I_way h.2.1 hk hy)
theorem rX6_commonDivisor_3 (a : Int32) : ∀ (n : Nat) (x : Int32), x.toInt ≤ 10 → 1 ≤ x.toInt + 0 → x.toInt < n → 1 ≤ (sX6_commonDivisor_3 a n x).toInt := by
  intro n
  induction n with
  | zero => intro x h1 h2 h3; omega
  | succ n ih =>
    intro x h1 h2 h3
    rw [sX6_commonDivisor_3]
    split
    · rw [q_1]; omega
    · rename_i c1
      have f1 := i_nle c1
      rw [q_1] at f1
      have f2 := i_addr (a := x) (b := (-1)) (n := -1) q_m1 (by omega) (by omega)
      split
      · split
        · omega
        · unfold bns; exact ih _ (by omega) (by omega) (by omega)
      · unfold bns; exact ih _ (by omega) (by omega) (by omega)
theorem rX6_commonDivisor (a : Int32) : 1 ≤ (sX6_commonDivisor a).toInt := by
  have := q_10
  exact rX6_commonDivisor_3 a 11 10 (by omega) (by omega) (by omega)
theorem rX6_refusalOfRounds (w : Nat → Nat → Nat → Int32) (a b c d : Int32) : (sX6_refusalOfRounds w a b c d).toInt ≠ 0 ∨ (0 ≤ a.toInt ∧ a.toInt < 2 ∧ 1 ≤ b.toInt ∧ b.toInt ≤ d.toInt ∧ 0 ≤ c.toInt ∧ c.toInt ≤ 999) := by
  have e1 : ((-1) : Int32).toInt ≠ 0 := by decide
  have e3 : ((-3) : Int32).toInt ≠ 0 := by decide
  have e4 : ((-4) : Int32).toInt ≠ 0 := by decide
  have e6 : ((-6) : Int32).toInt ≠ 0 := by decide
  unfold sX6_refusalOfRounds
  by_cases h1 : sX4_hasWay (w 0) a = 0
  · rw [if_pos h1]; exact Or.inl e1
  · rw [if_neg h1]
    have g1 := fX4_hasWay h1
    by_cases h2 : b < 1
    · rw [if_pos h2]; exact Or.inl e4
    · rw [if_neg h2]
      have g2 := i_nlt h2
      rw [q_1] at g2
      by_cases h3 : 0 ≤ c
      · rw [if_pos h3]
        have g3 := i_le h3
        rw [q_0] at g3
        by_cases h4 : d < b
        · rw [if_pos h4]; exact Or.inl e6
        · rw [if_neg h4]
          have g4 := i_nlt h4
          by_cases h5 : c ≤ 999
          · have g5 := i_le h5
            rw [q_999] at g5
            exact Or.inr ⟨g1.1, g1.2, g2, g4, g3, g5⟩
          · rw [if_neg h5]; exact Or.inl e6
      · rw [if_neg h3]; exact Or.inl e4
