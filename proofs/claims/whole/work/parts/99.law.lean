/-! the law: the start of the two objects -/
theorem R4_40 : R4I w40 := ⟨by decide +kernel, fun k hk => by rcases (show k = 0 ∨ k = 1 by omega) with rfl | rfl <;> decide +kernel⟩
theorem R6_60 : R6I w60 := ⟨R4_40, R4_40, R4_40, ⟨by decide +kernel, fun j => by show 0 ≤ (0 : Int32).toInt ∧ (0 : Int32).toInt < 65536; decide +kernel⟩, by show 0 ≤ (0 : Int32).toInt ∧ (0 : Int32).toInt ≤ 12; decide +kernel⟩
theorem IW_0 : IW 0 (fun _ => 0) w40 w70 := by
  refine ⟨Nat.zero_le _, ⟨Nat.zero_le _, rfl, rfl, fun j hj => absurd hj (Nat.not_lt_zero j), fun i hi => ?_, fun j hj => ?_, ?_, ?_, ?_, ?_⟩, fun j _ => rfl⟩
  · rcases (show i = 0 ∨ i = 1 by omega) with rfl | rfl <;> exact ⟨Nat.zero_le _, rfl, rfl, fun j hj => absurd hj (Nat.not_lt_zero j)⟩
  · rcases (show j = 0 ∨ j = 1 ∨ j = 2 ∨ j = 3 by omega) with rfl | rfl | rfl | rfl <;> rfl
  · unfold rg; decide +kernel
  · unfold rg; decide +kernel
  · unfold rg; decide +kernel
  · unfold rg; decide +kernel
theorem REL_0 : REL w60 w70 :=
  ⟨⟨0, fun _ => 0, IW_0⟩, fun k _ => rfl, ⟨0, Nat.zero_le _, rfl, rfl, fun j hj => absurd hj (Nat.not_lt_zero j)⟩, ⟨0, Nat.zero_le _, rfl, rfl, fun j hj => absurd hj (Nat.not_lt_zero j)⟩, ⟨rfl, fun h => absurd (rfl : w70 20 0 = 0) h⟩, ⟨by unfold rg; decide +kernel, by unfold rg; decide +kernel⟩⟩
theorem va_P.fst {D : va_G} {cl : List vw_C} {w1 w2 : va_W} {H : Heap} (h : va_P D cl (w1 ++ w2) H) : va_P D cl w1 H := fun k q hk => h k q (by rw [List.getElem?_append_left (List.getElem?_eq_some_iff.mp hk).1]; exact hk)
theorem va_P.snd {D : va_G} {cl : List vw_C} {w1 w2 : va_W} {H : Heap} (h : va_P D cl (w1 ++ w2) H) : va_P D cl w2 H := fun k q hk => h (w1.length + k) q (by rw [List.getElem?_append_right (by omega), Nat.add_sub_cancel_left]; exact hk)
theorem MWL_at {cI cC cQ : ClassId} {ad : Nat → Nat → Nat} {w : Nat → Nat → Nat → Int32} {i : Nat} (hi : i < 60) : ∃ x : va_E, (MWL cI cC cQ ad w)[i]? = some (PA ad i, x) := by
  have h1 : ((MWL cI cC cQ ad w).map (·.1))[i]? = some (PA ad i) := by rw [MWL_adr, List.getElem?_map, List.getElem?_range hi]; rfl
  rw [List.getElem?_map] at h1
  cases hc : (MWL cI cC cQ ad w)[i]? with
  | none => rw [hc] at h1; cases h1
  | some q =>
    rw [hc] at h1
    obtain ⟨a, x⟩ := q
    have h2 : a = PA ad i := Option.some.inj h1
    exact ⟨x, by rw [h2]⟩
theorem RM_at {cI : ClassId} {ad : Nat → Nat} {w : Nat → Nat → Int32} {i : Nat} (hi : i < 19) : ∃ x : va_E, (RM cI ad w)[i]? = some (ad i, x) := by
  have h0 : (RM cI ad w).map (·.1) = (List.range 19).map ad := rfl
  have h1 : ((RM cI ad w).map (·.1))[i]? = some (ad i) := by rw [h0, List.getElem?_map, List.getElem?_range hi]; rfl
  rw [List.getElem?_map] at h1
  cases hc : (RM cI ad w)[i]? with
  | none => rw [hc] at h1; cases h1
  | some q =>
    rw [hc] at h1
    obtain ⟨a, x⟩ := q
    have h2 : a = ad i := Option.some.inj h1
    exact ⟨x, by rw [h2]⟩
theorem law_apart {A : Nat → Prop} {cI cC cQ : ClassId} {adx : Nat → Nat → Nat} {adm : Nat → Nat} {V : Nat → Nat → Nat → Int32} {w : Nat → Nat → Int32} (hD : va_D A (MWL cI cC cQ adx V ++ RM cI adm w)) : MD adx ∧ RD adm ∧ (∀ q, MA adx q → A q) ∧ (∀ q, RA adm q → A q) ∧ ∀ q, RA adm q → ¬ MA adx q := by
  have hlen : (MWL cI cC cQ adx V).length = 60 := rfl
  have f6 : ∀ i, i < 60 → ∃ x : va_E, (MWL cI cC cQ adx V ++ RM cI adm w)[i]? = some (PA adx i, x) := fun i hi => by
    obtain ⟨x, h⟩ := MWL_at (cI := cI) (cC := cC) (cQ := cQ) (ad := adx) (w := V) hi
    exact ⟨x, by rw [List.getElem?_append_left (by rw [hlen]; exact hi)]; exact h⟩
  have f7 : ∀ i, i < 19 → ∃ x : va_E, (MWL cI cC cQ adx V ++ RM cI adm w)[60 + i]? = some (adm i, x) := fun i hi => by
    obtain ⟨x, h⟩ := RM_at (cI := cI) (ad := adm) (w := w) hi
    exact ⟨x, by rw [List.getElem?_append_right (by rw [hlen]; omega), hlen, Nat.add_sub_cancel_left]; exact h⟩
  refine ⟨fun i j hi hj e => ?_, fun i j hi hj e => ?_, fun q hq => ?_, fun q hq => ?_, fun q hq hz => ?_⟩
  · obtain ⟨x, h1⟩ := f6 i hi
    obtain ⟨y, h2⟩ := f6 j hj
    exact hD.1 i j _ _ h1 h2 e
  · obtain ⟨x, h1⟩ := f7 i hi
    obtain ⟨y, h2⟩ := f7 j hj
    have := hD.1 _ _ _ _ h1 h2 e
    omega
  · obtain ⟨i, hi, rfl⟩ := hq
    obtain ⟨x, h1⟩ := f6 i hi
    exact hD.2 _ _ h1
  · obtain ⟨i, hi, rfl⟩ := hq
    obtain ⟨x, h1⟩ := f7 i hi
    exact hD.2 _ _ h1
  · obtain ⟨i, hi, rfl⟩ := hq
    obtain ⟨j, hj, e⟩ := hz
    obtain ⟨x, h1⟩ := f7 i hi
    obtain ⟨y, h2⟩ := f6 j hj
    have := hD.1 _ _ _ _ h1 h2 e
    omega
section LAWL
variable {p : Program} {l : Launch} {e : Env} {s : State} {m : MethodId} {below : List Frame} {meth : Method} {c : Code} {b L : Nat} {xs : Nat → Int32} {D : va_G} {cI cC cQ : ClassId} {adx : Nat → Nat → Nat} {adm sd aK aV : Nat → Nat} {cells slots : Nat} {Q : State → Prop}
set_option maxHeartbeats 4000000 in
set_option maxRecDepth 100000 in
theorem law_loop (E : LAW p s m c b L xs D cI cC cQ adx adm sd aK aV) (hL : L ≤ 2048) (hcs : cells ≤ 600000 ∧ slots ≤ 7302250) (kend : ∀ (H : Heap) (locs : List Loc) (ls : Array Slot), va_S (fun q : Nat => s.heap.size ≤ q) s.heap H locs → W p l e room_1 s m #[Value.ref b] below meth c H locs cells slots Q (F0 m 1042 ls [])) : ∀ (n : Nat) (x3 : Int32), 0 ≤ x3.toInt → x3.toInt ≤ (L : Int) → (L : Int) + 4 ≤ x3.toInt + 4 * (n : Int) → ∀ (V : Nat → Nat → Nat → Int32) (w : Nat → Nat → Int32) (H : Heap) (locs : List Loc), va_P D vwCl (MWL cI cC cQ adx V) H → va_P D vwCl (RM cI adm w) H → R6I V → REL V w → va_S (fun q : Nat => s.heap.size ≤ q) s.heap H locs → ∀ (ls : Array Slot), lv_has ls 4 [(0, .ref b), (1, .ref (adx 5 0)), (2, .ref (adm 0)), (3, .int x3)] → W p l e room_1 s m #[Value.ref b] below meth c H locs cells slots Q (F0 m 18 ls []) := by
  intro n
  induction n with
  | zero =>
    intro x3 h0 h1 h2
    exact absurd h2 (by omega)
  | succ n ih =>
    intro x3 h0 h1 h2 V w H locs hP6 hP7 hI hR hS ls hl
    obtain ⟨hx, hb, hml, hown, hts, hX, hbl, -⟩ := id E
    have hbA : ¬ (fun q : Nat => s.heap.size ≤ q) b := Nat.not_le.mpr hbl
    refine lv_iload_n hx hb dL_law_18 rfl (lv_at hl 3 rfl) ?_
    refine lv_aload_n hx hb dL_law_19 rfl (lv_at hl 0 rfl) ?_
    refine va_slen hx hb hX hbl hbA hS dL_law_20 ?_
    refine lv_iconst (v := 4) hx hb dL_law_21 (by decide) ?_
    refine lv_isub hx hb dL_law_22 ?_
    have q1 := q_1
    have q2 := q_2
    have q3 := q_3
    have q4 := q_4
    have hLt : (Int32.ofNat L).toInt = (L : Int) := ii_t (by omega)
    have hLs : (Int32.ofNat L - 4).toInt = (L : Int) - 4 := by
      have := i_sub (a := Int32.ofNat L) (b := 4) (by omega) (by omega)
      omega
    refine lv_icmp_gt (tgt := 1042) hx hb dL_law_23 (by decide) (fun c1 => kend H locs ls hS) (fun c1 => ?_)
    have f1 := i_nlt c1
    have a1 := i_add (a := x3) (b := 1) (by omega) (by omega)
    have a2 := i_add (a := x3) (b := 2) (by omega) (by omega)
    have a3 := i_add (a := x3) (b := 3) (by omega) (by omega)
    have a4 := i_add (a := x3) (b := 4) (by omega) (by omega)
    have h_0 : vp_in x3 L := ix_of h0 (by omega)
    have h_1 : vp_in (x3 + 1) L := ix_of (by omega) (by omega)
    have h_2 : vp_in (x3 + 2) L := ix_of (by omega) (by omega)
    have h_3 : vp_in (x3 + 3) L := ix_of (by omega) (by omega)
    refine lv_aload_n hx hb dL_law_26 rfl (lv_at hl 0 rfl) ?_
    refine lv_iload_n hx hb dL_law_27 rfl (lv_at hl 3 rfl) ?_
    refine va_sld hx hb hX hbl hbA hS h_0 dL_law_28 ?_
    refine lv_bipush (v := 31) hx hb dL_law_29 (by decide +kernel) ?_
    refine lv_iand hx hb dL_law_31 ?_
    refine lv_topi (fun v ev => ?_)
    have hv := ix31 (xs x3.toNatClampNeg)
    rw [← ev] at hv
    have kk : ∀ (H : Heap) (locs : List Loc) (V : Nat → Nat → Nat → Int32) (w : Nat → Nat → Int32), va_P D vwCl (MWL cI cC cQ adx V) H → va_P D vwCl (RM cI adm w) H → R6I V → REL V w → va_S (fun q : Nat => s.heap.size ≤ q) s.heap H locs → W p l e room_1 s m #[Value.ref b] below meth c H locs cells slots Q (F0 m 1036 ls []) := by
      intro H locs V w hP6 hP7 hI hR hS
      obtain ⟨y, ey⟩ : ∃ y : Int32, y = x3 + 4 := ⟨_, rfl⟩
      rw [← ey] at a4
      refine lv_iinc (v := y) (lv' := [(3, .int y), (0, .ref b), (1, .ref (adx 5 0)), (2, .ref (adm 0))]) hx hb dL_law_1036 hl (k := 3) rfl (by rw [ey]; rfl) (by decide) rfl (fun ls hl => ?_)
      refine lv_goto (tgt := 18) hx hb dL_law_1039 (by decide) ?_
      exact ih y (by omega) (by omega) (by omega) V w H locs hP6 hP7 hI hR hS ls (lv_sub hl [1, 2, 3, 0] rfl)
    have hj : v.toInt = 0 ∨ v.toInt = 1 ∨ v.toInt = 2 ∨ v.toInt = 3 ∨ v.toInt = 4 ∨ v.toInt = 5 ∨ v.toInt = 6 ∨ v.toInt = 7 ∨ v.toInt = 8 ∨ v.toInt = 9 ∨ v.toInt = 10 ∨ v.toInt = 11 ∨ v.toInt = 12 ∨ v.toInt = 13 ∨ v.toInt = 14 ∨ v.toInt = 15 ∨ v.toInt = 16 ∨ v.toInt = 17 ∨ v.toInt = 18 ∨ v.toInt = 19 ∨ v.toInt = 20 ∨ v.toInt = 21 ∨ v.toInt = 22 ∨ v.toInt = 23 ∨ v.toInt = 24 ∨ v.toInt = 25 ∨ v.toInt = 26 ∨ v.toInt = 27 ∨ v.toInt = 28 ∨ v.toInt = 29 ∨ v.toInt = 30 ∨ v.toInt = 31 := by omega
    rcases hj with hj | hj | hj | hj | hj | hj | hj | hj | hj | hj | hj | hj | hj | hj | hj | hj | hj | hj | hj | hj | hj | hj | hj | hj | hj | hj | hj | hj | hj | hj | hj | hj
    · exact lv_tableIn (off := 140) (tgt := 172) hx hb dL_law_32 (by omega) (by omega) (by rw [hj]; rfl) (by decide) (law_letter E hcs hl h_1 h_2 h_3 hS hP6 hP7 hI hR kk)
    · exact lv_tableIn (off := 163) (tgt := 195) hx hb dL_law_32 (by omega) (by omega) (by rw [hj]; rfl) (by decide) (law_load E hcs hl h_1 h_2 h_3 hS hP6 hP7 hI hR kk)
    · exact lv_tableIn (off := 176) (tgt := 208) hx hb dL_law_32 (by omega) (by omega) (by rw [hj]; rfl) (by decide) (law_layer E hcs hl h_1 h_2 h_3 hS hP6 hP7 hI hR kk)
    · exact lv_tableIn (off := 209) (tgt := 241) hx hb dL_law_32 (by omega) (by omega) (by rw [hj]; rfl) (by decide) (law_piece E hcs hl h_1 h_2 h_3 hS hP6 hP7 hI hR kk)
    · exact lv_tableIn (off := 252) (tgt := 284) hx hb dL_law_32 (by omega) (by omega) (by rw [hj]; rfl) (by decide) (law_off E hcs hl h_1 h_2 h_3 hS hP6 hP7 hI hR kk)
    · exact lv_tableIn (off := 265) (tgt := 297) hx hb dL_law_32 (by omega) (by omega) (by rw [hj]; rfl) (by decide) (law_out E hcs hl h_1 h_2 h_3 hS hP6 hP7 hI hR kk)
    · exact lv_tableIn (off := 298) (tgt := 330) hx hb dL_law_32 (by omega) (by omega) (by rw [hj]; rfl) (by decide) (law_set E hcs hl h_1 h_2 h_3 hS hP6 hP7 hI hR kk)
    · exact lv_tableIn (off := 331) (tgt := 363) hx hb dL_law_32 (by omega) (by omega) (by rw [hj]; rfl) (by decide) (law_shift E hcs hl h_1 h_2 h_3 hS hP6 hP7 hI hR kk)
    · exact lv_tableIn (off := 374) (tgt := 406) hx hb dL_law_32 (by omega) (by omega) (by rw [hj]; rfl) (by decide) (law_slips E hcs hl h_1 h_2 h_3 hS hP6 hP7 hI hR kk)
    · exact lv_tableIn (off := 407) (tgt := 439) hx hb dL_law_32 (by omega) (by omega) (by rw [hj]; rfl) (by decide) (law_margin E hcs hl h_1 h_2 h_3 hS hP6 hP7 hI hR kk)
    · exact lv_tableIn (off := 430) (tgt := 462) hx hb dL_law_32 (by omega) (by omega) (by rw [hj]; rfl) (by decide) (law_high E hcs hl h_1 h_2 h_3 hS hP6 hP7 hI hR kk)
    · exact lv_tableIn (off := 453) (tgt := 485) hx hb dL_law_32 (by omega) (by omega) (by rw [hj]; rfl) (by decide) (law_more E hcs hl h_1 h_2 h_3 hS hP6 hP7 hI hR kk)
    · exact lv_tableIn (off := 476) (tgt := 508) hx hb dL_law_32 (by omega) (by omega) (by rw [hj]; rfl) (by decide) (law_farOut E hcs hl h_1 h_2 h_3 hS hP6 hP7 hI hR kk)
    · exact lv_tableIn (off := 509) (tgt := 541) hx hb dL_law_32 (by omega) (by omega) (by rw [hj]; rfl) (by decide) (law_leaning E hcs hl h_1 h_2 h_3 hS hP6 hP7 hI hR kk)
    · exact lv_tableIn (off := 532) (tgt := 564) hx hb dL_law_32 (by omega) (by omega) (by rw [hj]; rfl) (by decide) (law_enough E hcs hl h_1 h_2 h_3 hS hP6 hP7 hI hR kk)
    · exact lv_tableIn (off := 555) (tgt := 587) hx hb dL_law_32 (by omega) (by omega) (by rw [hj]; rfl) (by decide) (law_home E hcs hl h_1 h_2 h_3 hS hP6 hP7 hI hR kk)
    · exact lv_tableIn (off := 578) (tgt := 610) hx hb dL_law_32 (by omega) (by omega) (by rw [hj]; rfl) (by decide) (law_which E hcs hl h_1 h_2 h_3 hS hP6 hP7 hI hR kk)
    · exact lv_tableIn (off := 591) (tgt := 623) hx hb dL_law_32 (by omega) (by omega) (by rw [hj]; rfl) (by decide) (law_pitching E hcs hl h_1 h_2 h_3 hS hP6 hP7 hI hR kk)
    · exact lv_tableIn (off := 614) (tgt := 646) hx hb dL_law_32 (by omega) (by omega) (by rw [hj]; rfl) (by decide) (law_quick E hcs hl h_1 h_2 h_3 hS hP6 hP7 hI hR kk)
    · exact lv_tableIn (off := 637) (tgt := 669) hx hb dL_law_32 (by omega) (by omega) (by rw [hj]; rfl) (by decide) (law_rounds E hcs hl h_1 h_2 h_3 hS hP6 hP7 hI hR kk)
    · exact lv_tableIn (off := 680) (tgt := 712) hx hb dL_law_32 (by omega) (by omega) (by rw [hj]; rfl) (by decide) (law_worth E hcs hl h_1 h_2 h_3 hS hP6 hP7 hI hR kk)
    · exact lv_tableIn (off := 723) (tgt := 755) hx hb dL_law_32 (by omega) (by omega) (by rw [hj]; rfl) (by decide) (law_thunder E hcs hl h_1 h_2 h_3 hS hP6 hP7 hI hR kk)
    · exact lv_tableIn (off := 767) (tgt := 799) hx hb dL_law_32 (by omega) (by omega) (by rw [hj]; rfl) (by decide) (law_fell E hcs hl h_1 h_2 h_3 hS hP6 hP7 hI hR kk)
    · exact lv_tableIn (off := 800) (tgt := 832) hx hb dL_law_32 (by omega) (by omega) (by rw [hj]; rfl) (by decide) (law_whose E hcs hl h_1 h_2 h_3 hS hP6 hP7 hI hR kk)
    · exact lv_tableIn (off := 833) (tgt := 865) hx hb dL_law_32 (by omega) (by omega) (by rw [hj]; rfl) (by decide) (law_boundBy E hcs hl h_1 h_2 h_3 hS hP6 hP7 hI hR kk)
    · exact lv_tableIn (off := 866) (tgt := 898) hx hb dL_law_32 (by omega) (by omega) (by rw [hj]; rfl) (by decide) (law_row E hcs hl h_1 h_2 h_3 hS hP6 hP7 hI hR kk)
    · exact lv_tableIn (off := 889) (tgt := 921) hx hb dL_law_32 (by omega) (by omega) (by rw [hj]; rfl) (by decide) (law_judge E hcs hl h_1 h_2 h_3 hS hP6 hP7 hI hR kk)
    · exact lv_tableIn (off := 912) (tgt := 944) hx hb dL_law_32 (by omega) (by omega) (by rw [hj]; rfl) (by decide) (law_lots E hcs hl h_1 h_2 h_3 hS hP6 hP7 hI hR kk)
    · exact lv_tableIn (off := 955) (tgt := 987) hx hb dL_law_32 (by omega) (by omega) (by rw [hj]; rfl) (by decide) (law_image E hcs hl h_1 h_2 h_3 hS hP6 hP7 hI hR kk)
    · exact lv_tableIn (off := 968) (tgt := 1000) hx hb dL_law_32 (by omega) (by omega) (by rw [hj]; rfl) (by decide) (law_on E hcs hl h_1 h_2 h_3 hS hP6 hP7 hI hR kk)
    · exact lv_tableIn (off := 981) (tgt := 1013) hx hb dL_law_32 (by omega) (by omega) (by rw [hj]; rfl) (by decide) (law_count E hcs hl h_1 h_2 h_3 hS hP6 hP7 hI hR kk)
    · exact lv_tableOut (tgt := 1036) hx hb dL_law_32 (Or.inr (by omega)) (by decide) (kk H locs V w hP6 hP7 hI hR hS)
set_option maxHeartbeats 4000000 in
set_option maxRecDepth 100000 in
theorem law_begin {sf : Nat} (hx : p.tables.exec = Jvm.exec) (hb : c.code = code) (hml : c.maxLocals = 4) (hown : s.vm.findClass RL = some m.cls) (hts : ∀ w ∈ wsL_law, w.before #[Value.ref b] s = true) (hX : va_X b L xs s s.heap) (hbl : b < s.heap.size) (hK : va_K D vwCl [(cI, .int), (cC, .char), (cQ, .object "LoadedForTheLane$Way")] s) (hN : NW s) (hSE : SE sd (fun q : Nat => s.heap.size ≤ q) s s.heap) (hST : STR aK aV (fun q : Nat => s.heap.size ≤ q) s s.heap) (hFE : FE cI sf (fun q : Nat => s.heap.size ≤ q) s s.heap) (hL : L ≤ 2048) (kend : ∀ (H : Heap) (locs : List Loc) (ls : Array Slot), va_S (fun q : Nat => s.heap.size ≤ q) s.heap H locs → W p l e room_1 s m #[Value.ref b] below meth c H locs 79 1322 Q (F0 m 1042 ls [])) : W p l e room_1 s m #[Value.ref b] below meth c s.heap [] 0 0 Q (entryFrame m ([Value.ref b] : List Value).toArray 4) := by
  have hA : ∀ q : Nat, s.heap.size ≤ q → (fun q : Nat => s.heap.size ≤ q) q := fun _ h => h
  have hS : va_S (fun q : Nat => s.heap.size ≤ q) s.heap s.heap [] := va_S.rf
  have hP : va_P D vwCl [] s.heap := fun k q h => by simp at h
  have hD : va_D (fun q : Nat => s.heap.size ≤ q) [] := ⟨fun i j p q h => by simp at h, fun k q h => by simp at h⟩
  have hl := lv_entry ([.ref b]) (n := 4) (Nat.le_of_ble_eq_true rfl)
  rw [lg_entry_eq]
  generalize (lg_sl ([.ref b]) ++ List.replicate (4 - (lg_sl ([.ref b])).length) Slot.unset).toArray = ls at hl ⊢
  have hl : lv_has ls 4 [(0, .ref b)] := hl
  refine va_new (ci := 4) (fs := [.null, .null, .null, .int 0, .null, .null, .null]) (C := RX6) (T := TX6) (N := 7) hx hb hts inlX6 tyX6 tyX6_ok hown (hts (.classLink RL 7 RX6) (by decide +kernel)) (hts (.instantiable RX6 7) (by decide +kernel)) (hts (.initialized RX6) (by decide +kernel)) hK hP hD hS hA rfl (fun j hj => by rcases (show j = 0 ∨ j = 1 ∨ j = 2 ∨ j = 3 ∨ j = 4 ∨ j = 5 ∨ j = 6 by omega) with rfl | rfl | rfl | rfl | rfl | rfl | rfl <;> rfl) (Nat.le_of_ble_eq_true rfl) (Nat.le_of_ble_eq_true rfl) dL_law_0 (fun q0 H hP hD hS => ?_)
  have hP : va_P D vwCl [(q0, .inr (4, [.null, .null, .null, .int 0, .null, .null, .null]))] H := hP
  have hD : va_D (fun q : Nat => s.heap.size ≤ q) [(q0, .inr (4, [.null, .null, .null, .int 0, .null, .null, .null]))] := hD
  refine W.widen (k := 1) (n := 7) (by omega) (by omega) ?_
  refine lv_dup hx hb dL_law_3 rfl ?_
  have hFc := va_free (wc := [(q0, .inr (4, [.null, .null, .null, .int 0, .null, .null, .null]))]) hD hS hA [0] rfl
  refine va_callv (va_runI (As := []) (rest := [.ref q0]) ⟨hx, hb, hml, hown, hts⟩ (kX6_init l D cI cC cQ sf q0 H.size) (cwI 0 hts gL_law_X6_init rfl rfl rfl (hts (.initialized RX6) (by decide +kernel)) (hts (.methodLink RL 9 yX6_init) (by decide +kernel)) (hts (.instanceMethod yX6_init) (by decide +kernel)) rfl (by decide +kernel) ⟨Nat.le_of_ble_eq_true rfl, Nat.le_of_ble_eq_true rfl⟩) ⟨fun a U g mk q => by obtain ⟨q0, q1, qP, qK, qD, qN, qF⟩ := q; exact ⟨q0, q1, qP, va_K.moved (u := U) (U := U.calling g mk a) (Vm.Alike.refl U.vm) qK, qD, NW.same (u := U) (U := U.calling g mk a) rfl qN, FE.same (u := U) (U := U.calling g mk a) rfl qF⟩, fun U hU hW => ⟨rfl, by rw [hU], by rw [hU]; exact hP, va_K.moved hW.alike hK, hD.weaken (fun _ _ _ _ => trivial), NW.warm hW hN, by rw [hU]; exact FE.warm hW ((hFE.kept hS.2.1).narrow hFc)⟩⟩ rfl rfl hl.1 rfl (lv_room (Nat.le_of_ble_eq_true rfl)) dL_law_4 ⟨Nat.le_of_ble_eq_true rfl, Nat.le_of_ble_eq_true rfl⟩) hS (fun q _ h => hFc q h) hFc (fun u t H1 locs ht hvm h5 hB hz1 hk1 hS => ?_)
  obtain ⟨adx, hadx, hP1, hD1⟩ := hB
  rw [ht] at hP1
  obtain ⟨hP2, hD2⟩ := va_join (wr := []) (w1 := MWL cI cC cQ adx w60) hP hD [0] [] rfl rfl (by decide) (by decide) hk1 hFc hP1 hD1
  clear hFc hk1 hP1 hD1 hz1 ht h5 hP hD
  generalize H1 = H at hP2 hS ⊢
  subst hadx
  have hP : va_P D vwCl (MWL cI cC cQ adx w60) H := hP2
  have hD : va_D (fun q : Nat => s.heap.size ≤ q) (MWL cI cC cQ adx w60) := hD2
  clear hP2 hD2
  refine W.widen (k := 60) (n := 534) (by omega) (by omega) ?_
  refine lv_astore_n (lv' := [(1, .ref (adx 5 0)), (0, .ref b)]) hx hb dL_law_7 rfl hl (by decide) rfl (fun ls hl => ?_)
  refine va_new (ci := 5) (fs := [.null, .null, .null, .null, .null, .null, .null, .null, .null, .null, .null, .int 0, .null, .null, .null, .null, .int 0, .int 0, .int 0, .null, .int 0, .int 0, .int 0, .int 0, .int 0, .null, .null, .int 0, .int 0]) (C := RX7) (T := TX7) (N := 29) hx hb hts inlX7 tyX7 tyX7_ok hown (hts (.classLink RL 10 RX7) (by decide +kernel)) (hts (.instantiable RX7 29) (by decide +kernel)) (hts (.initialized RX7) (by decide +kernel)) hK hP hD hS hA rfl (fun j hj => by rcases (show j = 0 ∨ j = 1 ∨ j = 2 ∨ j = 3 ∨ j = 4 ∨ j = 5 ∨ j = 6 ∨ j = 7 ∨ j = 8 ∨ j = 9 ∨ j = 10 ∨ j = 11 ∨ j = 12 ∨ j = 13 ∨ j = 14 ∨ j = 15 ∨ j = 16 ∨ j = 17 ∨ j = 18 ∨ j = 19 ∨ j = 20 ∨ j = 21 ∨ j = 22 ∨ j = 23 ∨ j = 24 ∨ j = 25 ∨ j = 26 ∨ j = 27 ∨ j = 28 by omega) with rfl | rfl | rfl | rfl | rfl | rfl | rfl | rfl | rfl | rfl | rfl | rfl | rfl | rfl | rfl | rfl | rfl | rfl | rfl | rfl | rfl | rfl | rfl | rfl | rfl | rfl | rfl | rfl | rfl <;> rfl) (Nat.le_of_ble_eq_true rfl) (Nat.le_of_ble_eq_true rfl) dL_law_8 (fun q0 H hP hD hS => ?_)
  refine W.widen (k := 61) (n := 563) (by omega) (by omega) ?_
  refine lv_dup hx hb dL_law_11 rfl ?_
  have hPc : va_P D vwCl [(q0, .inr (5, [.null, .null, .null, .null, .null, .null, .null, .null, .null, .null, .null, .int 0, .null, .null, .null, .null, .int 0, .int 0, .int 0, .null, .int 0, .int 0, .int 0, .int 0, .int 0, .null, .null, .int 0, .int 0]))] H := hP.snd
  have hFc := va_free (wc := [(q0, .inr (5, [.null, .null, .null, .null, .null, .null, .null, .null, .null, .null, .null, .int 0, .null, .null, .null, .null, .int 0, .int 0, .int 0, .null, .int 0, .int 0, .int 0, .int 0, .int 0, .null, .null, .int 0, .int 0]))]) hD hS hA [60] rfl
  have hDc : va_D (fun q : Nat => s.heap.size ≤ q) [(q0, .inr (5, [.null, .null, .null, .null, .null, .null, .null, .null, .null, .null, .null, .int 0, .null, .null, .null, .null, .int 0, .int 0, .int 0, .null, .int 0, .int 0, .int 0, .int 0, .int 0, .null, .null, .int 0, .int 0]))] := ⟨fun i j p q h1 h2 _ => by
    have := (List.getElem?_eq_some_iff.mp h1).1
    have := (List.getElem?_eq_some_iff.mp h2).1
    simp only [List.length_singleton] at *
    omega, fun k q h => hFc q.1 (va_A.in h)⟩
  refine va_callv (va_runI (As := []) (rest := [.ref q0]) ⟨hx, hb, hml, hown, hts⟩ (kX7_init l D cI cC cQ q0 H.size) (cwI 0 hts gL_law_X7_init rfl rfl rfl (hts (.initialized RX7) (by decide +kernel)) (hts (.methodLink RL 12 yX7_init) (by decide +kernel)) (hts (.instanceMethod yX7_init) (by decide +kernel)) rfl (by decide +kernel) ⟨Nat.le_of_ble_eq_true rfl, Nat.le_of_ble_eq_true rfl⟩) ⟨fun a U g mk q => by obtain ⟨q0, q1, qP, qK, qD⟩ := q; exact ⟨q0, q1, qP, va_K.moved (u := U) (U := U.calling g mk a) (Vm.Alike.refl U.vm) qK, qD⟩, fun U hU hW => ⟨rfl, by rw [hU], by rw [hU]; exact hPc, va_K.moved hW.alike hK, hDc.weaken (fun _ _ _ _ => trivial)⟩⟩ rfl rfl hl.1 rfl (lv_room (Nat.le_of_ble_eq_true rfl)) dL_law_12 ⟨Nat.le_of_ble_eq_true rfl, Nat.le_of_ble_eq_true rfl⟩) hS (fun q _ h => hFc q h) hFc (fun u t H1 locs ht hvm h5 hB hz1 hk1 hS => ?_)
  obtain ⟨adm, hadm, hP1, hD1⟩ := hB
  rw [ht] at hP1
  obtain ⟨hP2, hD2⟩ := va_join (wr := MWL cI cC cQ adx w60) (w1 := RM cI adm w70) hP hD [60] (List.range 60) rfl rfl (by decide) (by decide) hk1 hFc hP1 hD1
  clear hPc hDc hFc hk1 hP1 hD1 hz1 ht h5 hP hD
  generalize H1 = H at hP2 hS ⊢
  subst hadm
  refine W.widen (k := 79) (n := 1322) (by omega) (by omega) ?_
  refine lv_astore_n (lv' := [(2, .ref (adm 0)), (1, .ref (adx 5 0)), (0, .ref b)]) hx hb dL_law_15 rfl hl (by decide) rfl (fun ls hl => ?_)
  refine lv_iconst (v := 0) hx hb dL_law_16 (by decide) ?_
  refine lv_istore_n (lv' := [(3, .int 0), (2, .ref (adm 0)), (1, .ref (adx 5 0)), (0, .ref b)]) hx hb dL_law_17 rfl hl (by decide) rfl (fun ls hl => ?_)
  obtain ⟨g1, g2, g3, g4, g5⟩ := law_apart hD2
  have q0 := q_0
  exact law_loop ⟨hx, hb, hml, hown, hts, hX, hbl, hK, hN, hSE, hST, g1, g2, g3, g4, g5⟩ hL ⟨by omega, by omega⟩ kend (L + 1) 0 (by omega) (by omega) (by omega) w60 w70 H locs hP2.fst hP2.snd R6_60 REL_0 hS ls (lv_sub hl [3, 2, 1, 0] rfl)
end LAWL
