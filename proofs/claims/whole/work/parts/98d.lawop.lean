section LAWO24
variable {p : Program} {l : Launch} {e : Env} {s : State} {m : MethodId} {below : List Frame} {meth : Method} {c : Code} {b L : Nat} {xs : Nat → Int32} {D : va_G} {cI cC cQ : ClassId} {adx : Nat → Nat → Nat} {adm sd aK aV : Nat → Nat} {H : Heap} {locs : List Loc} {cells slots : Nat} {Q : State → Prop} {V : Nat → Nat → Nat → Int32} {w : Nat → Nat → Int32} {x3 : Int32} {ls : Array Slot}
set_option maxHeartbeats 4000000 in
set_option maxRecDepth 100000 in
theorem law_boundBy (E : LAW p s m c b L xs D cI cC cQ adx adm sd aK aV) (hcs : cells ≤ 600000 ∧ slots ≤ 7302250) (hl : lv_has ls 4 [(0, .ref b), (1, .ref (adx 5 0)), (2, .ref (adm 0)), (3, .int x3)]) (h_1 : vp_in (x3 + 1) L) (h_2 : vp_in (x3 + 2) L) (h_3 : vp_in (x3 + 3) L) (hS : va_S (fun q : Nat => s.heap.size ≤ q) s.heap H locs) (hP6 : va_P D vwCl (MWL cI cC cQ adx V) H) (hP7 : va_P D vwCl (RM cI adm w) H) (hI : R6I V) (hR : REL V w) (kk : ∀ (H : Heap) (locs : List Loc) (V : Nat → Nat → Nat → Int32) (w : Nat → Nat → Int32), va_P D vwCl (MWL cI cC cQ adx V) H → va_P D vwCl (RM cI adm w) H → R6I V → REL V w → va_S (fun q : Nat => s.heap.size ≤ q) s.heap H locs → W p l e room_1 s m #[Value.ref b] below meth c H locs cells slots Q (F0 m 1036 ls [])) : W p l e room_1 s m #[Value.ref b] below meth c H locs cells slots Q (F0 m 865 ls []) := by
  obtain ⟨hx, hb, hml, hown, hts, hX, hbl, hK, hN, hSE, hST, hd, hdm, hA6, hA7, hdis⟩ := E
  have hbA : ¬ (fun q : Nat => s.heap.size ≤ q) b := Nat.not_le.mpr hbl
  refine lv_aload_n hx hb dL_law_865 rfl (lv_at hl 1 rfl) ?_
  refine lv_aload_n hx hb dL_law_866 rfl (lv_at hl 0 rfl) ?_
  refine lv_iload_n hx hb dL_law_867 rfl (lv_at hl 3 rfl) ?_
  refine lv_iconst (v := 1) hx hb dL_law_868 (by decide) ?_
  refine lv_iadd hx hb dL_law_869 ?_
  refine va_sld hx hb hX hbl hbA hS h_1 dL_law_870 ?_
  refine lv_aload_n hx hb dL_law_871 rfl (lv_at hl 0 rfl) ?_
  refine lv_iload_n hx hb dL_law_872 rfl (lv_at hl 3 rfl) ?_
  refine lv_iconst (v := 2) hx hb dL_law_873 (by decide) ?_
  refine lv_iadd hx hb dL_law_874 ?_
  refine va_sld hx hb hX hbl hbA hS h_2 dL_law_875 ?_
  refine va_calli (va_runV (As := [.int (xs (x3 + 1).toNatClampNeg), .int (xs (x3 + 2).toNatClampNeg)]) (rest := []) ⟨hx, hb, hml, hown, hts⟩ (kX6_boundBy l D cI cC cQ adx sd aK aV V (xs (x3 + 1).toNatClampNeg) (xs (x3 + 2).toNatClampNeg) hd hI) (cwV 2 hts gL_law_X6_boundBy rfl rfl rfl mdX6_boundBy ⟨Nat.le_of_ble_eq_true rfl, Nat.le_of_ble_eq_true rfl⟩) (x6_preL hK hP6 hN hSE hST hA6 hS) rfl rfl hl.1 rfl (lv_room (Nat.le_of_ble_eq_true rfl)) dL_law_876 ⟨hcs.1, hcs.2⟩) hS (fun q _ h => hA6 q h) (fun q h => hA6 q h) (fun r6 V1 t H1 locs1 ht hvm hp6 hB hz hfr hS1 => ?_)
  rw [ht] at hB
  have hP71 := keep7 hP7 hdis hfr
  refine lv_aload_n hx hb dL_law_879 rfl (lv_at hl 2 rfl) ?_
  refine lv_aload_n hx hb dL_law_880 rfl (lv_at hl 0 rfl) ?_
  refine lv_iload_n hx hb dL_law_881 rfl (lv_at hl 3 rfl) ?_
  refine lv_iconst (v := 1) hx hb dL_law_882 (by decide) ?_
  refine lv_iadd hx hb dL_law_883 ?_
  refine va_sld hx hb hX hbl hbA hS1 h_1 dL_law_884 ?_
  refine lv_aload_n hx hb dL_law_885 rfl (lv_at hl 0 rfl) ?_
  refine lv_iload_n hx hb dL_law_886 rfl (lv_at hl 3 rfl) ?_
  refine lv_iconst (v := 2) hx hb dL_law_887 (by decide) ?_
  refine lv_iadd hx hb dL_law_888 ?_
  refine va_sld hx hb hX hbl hbA hS1 h_2 dL_law_889 ?_
  refine va_calli (va_runV (As := [.int (xs (x3 + 1).toNatClampNeg), .int (xs (x3 + 2).toNatClampNeg)]) (rest := [.int r6]) ⟨hx, hb, hml, hown, hts⟩ (kX7_boundBy l D cI adm w (xs (x3 + 1).toNatClampNeg) (xs (x3 + 2).toNatClampNeg) hdm hR.R7) (cwV 2 hts gL_law_X7_boundBy rfl rfl rfl mdX7_boundBy ⟨Nat.le_of_ble_eq_true rfl, Nat.le_of_ble_eq_true rfl⟩) (x7_preL (hK.sub [0] rfl) hP71) rfl rfl hl.1 rfl (lv_room (Nat.le_of_ble_eq_true rfl)) dL_law_890 ⟨hcs.1, hcs.2⟩) hS1 (fun q _ h => hA7 q h) (fun q h => hA7 q h) (fun r7 w1 t2 H2 locs2 ht2 hvm2 hp7 hB7 hz2 hfr2 hS2 => ?_)
  rw [ht2] at hB7
  have hO := S_boundBy hR (xs (x3 + 1).toNatClampNeg) (xs (x3 + 2).toNatClampNeg)
  rw [← hp6.1, ← hp7] at hO
  have hP62 := keep6 hB hdis hfr2
  exact lv_icmp_eq (tgt := 1036) hx hb dL_law_893 (by decide) (fun _ => kk H2 locs2 V1 w1 hP62 hB7 hp6.2 hO.2 hS2) (fun hne => absurd hO.1 hne)
set_option maxHeartbeats 4000000 in
set_option maxRecDepth 100000 in
theorem law_row (E : LAW p s m c b L xs D cI cC cQ adx adm sd aK aV) (hcs : cells ≤ 600000 ∧ slots ≤ 7302250) (hl : lv_has ls 4 [(0, .ref b), (1, .ref (adx 5 0)), (2, .ref (adm 0)), (3, .int x3)]) (h_1 : vp_in (x3 + 1) L) (h_2 : vp_in (x3 + 2) L) (h_3 : vp_in (x3 + 3) L) (hS : va_S (fun q : Nat => s.heap.size ≤ q) s.heap H locs) (hP6 : va_P D vwCl (MWL cI cC cQ adx V) H) (hP7 : va_P D vwCl (RM cI adm w) H) (hI : R6I V) (hR : REL V w) (kk : ∀ (H : Heap) (locs : List Loc) (V : Nat → Nat → Nat → Int32) (w : Nat → Nat → Int32), va_P D vwCl (MWL cI cC cQ adx V) H → va_P D vwCl (RM cI adm w) H → R6I V → REL V w → va_S (fun q : Nat => s.heap.size ≤ q) s.heap H locs → W p l e room_1 s m #[Value.ref b] below meth c H locs cells slots Q (F0 m 1036 ls [])) : W p l e room_1 s m #[Value.ref b] below meth c H locs cells slots Q (F0 m 898 ls []) := by
  obtain ⟨hx, hb, hml, hown, hts, hX, hbl, hK, hN, hSE, hST, hd, hdm, hA6, hA7, hdis⟩ := E
  have hbA : ¬ (fun q : Nat => s.heap.size ≤ q) b := Nat.not_le.mpr hbl
  refine lv_aload_n hx hb dL_law_898 rfl (lv_at hl 1 rfl) ?_
  refine lv_aload_n hx hb dL_law_899 rfl (lv_at hl 0 rfl) ?_
  refine lv_iload_n hx hb dL_law_900 rfl (lv_at hl 3 rfl) ?_
  refine lv_iconst (v := 1) hx hb dL_law_901 (by decide) ?_
  refine lv_iadd hx hb dL_law_902 ?_
  refine va_sld hx hb hX hbl hbA hS h_1 dL_law_903 ?_
  refine va_calli (va_runV (As := [.int (xs (x3 + 1).toNatClampNeg)]) (rest := []) ⟨hx, hb, hml, hown, hts⟩ (kX6_row l D cI cC cQ adx sd aK aV V (xs (x3 + 1).toNatClampNeg) hd hI) (cwV 1 hts gL_law_X6_row rfl rfl rfl mdX6_row ⟨Nat.le_of_ble_eq_true rfl, Nat.le_of_ble_eq_true rfl⟩) (x6_preL hK hP6 hN hSE hST hA6 hS) rfl rfl hl.1 rfl (lv_room (Nat.le_of_ble_eq_true rfl)) dL_law_904 ⟨hcs.1, hcs.2⟩) hS (fun q _ h => hA6 q h) (fun q h => hA6 q h) (fun r6 V1 t H1 locs1 ht hvm hp6 hB hz hfr hS1 => ?_)
  rw [ht] at hB
  have hP71 := keep7 hP7 hdis hfr
  refine lv_aload_n hx hb dL_law_907 rfl (lv_at hl 2 rfl) ?_
  refine lv_aload_n hx hb dL_law_908 rfl (lv_at hl 0 rfl) ?_
  refine lv_iload_n hx hb dL_law_909 rfl (lv_at hl 3 rfl) ?_
  refine lv_iconst (v := 1) hx hb dL_law_910 (by decide) ?_
  refine lv_iadd hx hb dL_law_911 ?_
  refine va_sld hx hb hX hbl hbA hS1 h_1 dL_law_912 ?_
  refine va_calli (va_runV (As := [.int (xs (x3 + 1).toNatClampNeg)]) (rest := [.int r6]) ⟨hx, hb, hml, hown, hts⟩ (kX7_row l D cI adm w (xs (x3 + 1).toNatClampNeg) hdm hR.R7) (cwV 1 hts gL_law_X7_row rfl rfl rfl mdX7_row ⟨Nat.le_of_ble_eq_true rfl, Nat.le_of_ble_eq_true rfl⟩) (x7_preL (hK.sub [0] rfl) hP71) rfl rfl hl.1 rfl (lv_room (Nat.le_of_ble_eq_true rfl)) dL_law_913 ⟨hcs.1, hcs.2⟩) hS1 (fun q _ h => hA7 q h) (fun q h => hA7 q h) (fun r7 w1 t2 H2 locs2 ht2 hvm2 hp7 hB7 hz2 hfr2 hS2 => ?_)
  rw [ht2] at hB7
  have hO := S_row hR (xs (x3 + 1).toNatClampNeg)
  rw [← hp6.1, ← hp7.1] at hO
  have hP62 := keep6 hB hdis hfr2
  exact lv_icmp_eq (tgt := 1036) hx hb dL_law_916 (by decide) (fun _ => kk H2 locs2 V1 w1 hP62 hB7 hp6.2 hO.2 hS2) (fun hne => absurd hO.1 hne)
set_option maxHeartbeats 4000000 in
set_option maxRecDepth 100000 in
theorem law_judge (E : LAW p s m c b L xs D cI cC cQ adx adm sd aK aV) (hcs : cells ≤ 600000 ∧ slots ≤ 7302250) (hl : lv_has ls 4 [(0, .ref b), (1, .ref (adx 5 0)), (2, .ref (adm 0)), (3, .int x3)]) (h_1 : vp_in (x3 + 1) L) (h_2 : vp_in (x3 + 2) L) (h_3 : vp_in (x3 + 3) L) (hS : va_S (fun q : Nat => s.heap.size ≤ q) s.heap H locs) (hP6 : va_P D vwCl (MWL cI cC cQ adx V) H) (hP7 : va_P D vwCl (RM cI adm w) H) (hI : R6I V) (hR : REL V w) (kk : ∀ (H : Heap) (locs : List Loc) (V : Nat → Nat → Nat → Int32) (w : Nat → Nat → Int32), va_P D vwCl (MWL cI cC cQ adx V) H → va_P D vwCl (RM cI adm w) H → R6I V → REL V w → va_S (fun q : Nat => s.heap.size ≤ q) s.heap H locs → W p l e room_1 s m #[Value.ref b] below meth c H locs cells slots Q (F0 m 1036 ls [])) : W p l e room_1 s m #[Value.ref b] below meth c H locs cells slots Q (F0 m 921 ls []) := by
  obtain ⟨hx, hb, hml, hown, hts, hX, hbl, hK, hN, hSE, hST, hd, hdm, hA6, hA7, hdis⟩ := E
  have hbA : ¬ (fun q : Nat => s.heap.size ≤ q) b := Nat.not_le.mpr hbl
  refine lv_aload_n hx hb dL_law_921 rfl (lv_at hl 1 rfl) ?_
  refine lv_aload_n hx hb dL_law_922 rfl (lv_at hl 0 rfl) ?_
  refine lv_iload_n hx hb dL_law_923 rfl (lv_at hl 3 rfl) ?_
  refine lv_iconst (v := 1) hx hb dL_law_924 (by decide) ?_
  refine lv_iadd hx hb dL_law_925 ?_
  refine va_sld hx hb hX hbl hbA hS h_1 dL_law_926 ?_
  refine va_calli (va_runV (As := [.int (xs (x3 + 1).toNatClampNeg)]) (rest := []) ⟨hx, hb, hml, hown, hts⟩ (kX6_judge l D cI cC cQ adx sd aK aV V (xs (x3 + 1).toNatClampNeg) hd hI) (cwV 1 hts gL_law_X6_judge rfl rfl rfl mdX6_judge ⟨Nat.le_of_ble_eq_true rfl, Nat.le_of_ble_eq_true rfl⟩) (x6_preL hK hP6 hN hSE hST hA6 hS) rfl rfl hl.1 rfl (lv_room (Nat.le_of_ble_eq_true rfl)) dL_law_927 ⟨hcs.1, hcs.2⟩) hS (fun q _ h => hA6 q h) (fun q h => hA6 q h) (fun r6 V1 t H1 locs1 ht hvm hp6 hB hz hfr hS1 => ?_)
  rw [ht] at hB
  have hP71 := keep7 hP7 hdis hfr
  refine lv_aload_n hx hb dL_law_930 rfl (lv_at hl 2 rfl) ?_
  refine lv_aload_n hx hb dL_law_931 rfl (lv_at hl 0 rfl) ?_
  refine lv_iload_n hx hb dL_law_932 rfl (lv_at hl 3 rfl) ?_
  refine lv_iconst (v := 1) hx hb dL_law_933 (by decide) ?_
  refine lv_iadd hx hb dL_law_934 ?_
  refine va_sld hx hb hX hbl hbA hS1 h_1 dL_law_935 ?_
  refine va_calli (va_runV (As := [.int (xs (x3 + 1).toNatClampNeg)]) (rest := [.int r6]) ⟨hx, hb, hml, hown, hts⟩ (kX7_judge l D cI adm w (xs (x3 + 1).toNatClampNeg) hdm hR.R7) (cwV 1 hts gL_law_X7_judge rfl rfl rfl mdX7_judge ⟨Nat.le_of_ble_eq_true rfl, Nat.le_of_ble_eq_true rfl⟩) (x7_preL (hK.sub [0] rfl) hP71) rfl rfl hl.1 rfl (lv_room (Nat.le_of_ble_eq_true rfl)) dL_law_936 ⟨hcs.1, hcs.2⟩) hS1 (fun q _ h => hA7 q h) (fun q h => hA7 q h) (fun r7 w1 t2 H2 locs2 ht2 hvm2 hp7 hB7 hz2 hfr2 hS2 => ?_)
  rw [ht2] at hB7
  have hO := S_judge hR (xs (x3 + 1).toNatClampNeg)
  rw [← hp6.1, ← hp7.1] at hO
  have hP62 := keep6 hB hdis hfr2
  exact lv_icmp_eq (tgt := 1036) hx hb dL_law_939 (by decide) (fun _ => kk H2 locs2 V1 w1 hP62 hB7 hp6.2 hO.2 hS2) (fun hne => absurd hO.1 hne)
set_option maxHeartbeats 4000000 in
set_option maxRecDepth 100000 in
theorem law_lots (E : LAW p s m c b L xs D cI cC cQ adx adm sd aK aV) (hcs : cells ≤ 600000 ∧ slots ≤ 7302250) (hl : lv_has ls 4 [(0, .ref b), (1, .ref (adx 5 0)), (2, .ref (adm 0)), (3, .int x3)]) (h_1 : vp_in (x3 + 1) L) (h_2 : vp_in (x3 + 2) L) (h_3 : vp_in (x3 + 3) L) (hS : va_S (fun q : Nat => s.heap.size ≤ q) s.heap H locs) (hP6 : va_P D vwCl (MWL cI cC cQ adx V) H) (hP7 : va_P D vwCl (RM cI adm w) H) (hI : R6I V) (hR : REL V w) (kk : ∀ (H : Heap) (locs : List Loc) (V : Nat → Nat → Nat → Int32) (w : Nat → Nat → Int32), va_P D vwCl (MWL cI cC cQ adx V) H → va_P D vwCl (RM cI adm w) H → R6I V → REL V w → va_S (fun q : Nat => s.heap.size ≤ q) s.heap H locs → W p l e room_1 s m #[Value.ref b] below meth c H locs cells slots Q (F0 m 1036 ls [])) : W p l e room_1 s m #[Value.ref b] below meth c H locs cells slots Q (F0 m 944 ls []) := by
  obtain ⟨hx, hb, hml, hown, hts, hX, hbl, hK, hN, hSE, hST, hd, hdm, hA6, hA7, hdis⟩ := E
  have hbA : ¬ (fun q : Nat => s.heap.size ≤ q) b := Nat.not_le.mpr hbl
  refine lv_aload_n hx hb dL_law_944 rfl (lv_at hl 1 rfl) ?_
  refine lv_aload_n hx hb dL_law_945 rfl (lv_at hl 0 rfl) ?_
  refine lv_iload_n hx hb dL_law_946 rfl (lv_at hl 3 rfl) ?_
  refine lv_iconst (v := 1) hx hb dL_law_947 (by decide) ?_
  refine lv_iadd hx hb dL_law_948 ?_
  refine va_sld hx hb hX hbl hbA hS h_1 dL_law_949 ?_
  refine lv_aload_n hx hb dL_law_950 rfl (lv_at hl 0 rfl) ?_
  refine lv_iload_n hx hb dL_law_951 rfl (lv_at hl 3 rfl) ?_
  refine lv_iconst (v := 2) hx hb dL_law_952 (by decide) ?_
  refine lv_iadd hx hb dL_law_953 ?_
  refine va_sld hx hb hX hbl hbA hS h_2 dL_law_954 ?_
  refine lv_aload_n hx hb dL_law_955 rfl (lv_at hl 0 rfl) ?_
  refine lv_iload_n hx hb dL_law_956 rfl (lv_at hl 3 rfl) ?_
  refine lv_iconst (v := 3) hx hb dL_law_957 (by decide) ?_
  refine lv_iadd hx hb dL_law_958 ?_
  refine va_sld hx hb hX hbl hbA hS h_3 dL_law_959 ?_
  refine va_calli (va_runV (As := [.int (xs (x3 + 1).toNatClampNeg), .int (xs (x3 + 2).toNatClampNeg), .int (xs (x3 + 3).toNatClampNeg)]) (rest := []) ⟨hx, hb, hml, hown, hts⟩ (kX6_lots l D cI cC cQ adx sd aK aV V (xs (x3 + 1).toNatClampNeg) (xs (x3 + 2).toNatClampNeg) (xs (x3 + 3).toNatClampNeg) hd hI) (cwV 3 hts gL_law_X6_lots rfl rfl rfl mdX6_lots ⟨Nat.le_of_ble_eq_true rfl, Nat.le_of_ble_eq_true rfl⟩) (x6_preL hK hP6 hN hSE hST hA6 hS) rfl rfl hl.1 rfl (lv_room (Nat.le_of_ble_eq_true rfl)) dL_law_960 ⟨hcs.1, hcs.2⟩) hS (fun q _ h => hA6 q h) (fun q h => hA6 q h) (fun r6 V1 t H1 locs1 ht hvm hp6 hB hz hfr hS1 => ?_)
  rw [ht] at hB
  have hP71 := keep7 hP7 hdis hfr
  refine lv_aload_n hx hb dL_law_963 rfl (lv_at hl 2 rfl) ?_
  refine lv_aload_n hx hb dL_law_964 rfl (lv_at hl 0 rfl) ?_
  refine lv_iload_n hx hb dL_law_965 rfl (lv_at hl 3 rfl) ?_
  refine lv_iconst (v := 1) hx hb dL_law_966 (by decide) ?_
  refine lv_iadd hx hb dL_law_967 ?_
  refine va_sld hx hb hX hbl hbA hS1 h_1 dL_law_968 ?_
  refine lv_aload_n hx hb dL_law_969 rfl (lv_at hl 0 rfl) ?_
  refine lv_iload_n hx hb dL_law_970 rfl (lv_at hl 3 rfl) ?_
  refine lv_iconst (v := 2) hx hb dL_law_971 (by decide) ?_
  refine lv_iadd hx hb dL_law_972 ?_
  refine va_sld hx hb hX hbl hbA hS1 h_2 dL_law_973 ?_
  refine lv_aload_n hx hb dL_law_974 rfl (lv_at hl 0 rfl) ?_
  refine lv_iload_n hx hb dL_law_975 rfl (lv_at hl 3 rfl) ?_
  refine lv_iconst (v := 3) hx hb dL_law_976 (by decide) ?_
  refine lv_iadd hx hb dL_law_977 ?_
  refine va_sld hx hb hX hbl hbA hS1 h_3 dL_law_978 ?_
  refine va_calli (va_runV (As := [.int (xs (x3 + 1).toNatClampNeg), .int (xs (x3 + 2).toNatClampNeg), .int (xs (x3 + 3).toNatClampNeg)]) (rest := [.int r6]) ⟨hx, hb, hml, hown, hts⟩ (kX7_lots l D cI adm w (xs (x3 + 1).toNatClampNeg) (xs (x3 + 2).toNatClampNeg) (xs (x3 + 3).toNatClampNeg) hdm hR.R7) (cwV 3 hts gL_law_X7_lots rfl rfl rfl mdX7_lots ⟨Nat.le_of_ble_eq_true rfl, Nat.le_of_ble_eq_true rfl⟩) (x7_preL (hK.sub [0] rfl) hP71) rfl rfl hl.1 rfl (lv_room (Nat.le_of_ble_eq_true rfl)) dL_law_979 ⟨hcs.1, hcs.2⟩) hS1 (fun q _ h => hA7 q h) (fun q h => hA7 q h) (fun r7 w1 t2 H2 locs2 ht2 hvm2 hp7 hB7 hz2 hfr2 hS2 => ?_)
  rw [ht2] at hB7
  have hO := S_lots hR (xs (x3 + 1).toNatClampNeg) (xs (x3 + 2).toNatClampNeg) (xs (x3 + 3).toNatClampNeg)
  rw [← hp6.1, ← hp7] at hO
  have hP62 := keep6 hB hdis hfr2
  exact lv_icmp_eq (tgt := 1036) hx hb dL_law_982 (by decide) (fun _ => kk H2 locs2 V1 w1 hP62 hB7 hp6.2 hO.2 hS2) (fun hne => absurd hO.1 hne)
set_option maxHeartbeats 4000000 in
set_option maxRecDepth 100000 in
theorem law_image (E : LAW p s m c b L xs D cI cC cQ adx adm sd aK aV) (hcs : cells ≤ 600000 ∧ slots ≤ 7302250) (hl : lv_has ls 4 [(0, .ref b), (1, .ref (adx 5 0)), (2, .ref (adm 0)), (3, .int x3)]) (h_1 : vp_in (x3 + 1) L) (h_2 : vp_in (x3 + 2) L) (h_3 : vp_in (x3 + 3) L) (hS : va_S (fun q : Nat => s.heap.size ≤ q) s.heap H locs) (hP6 : va_P D vwCl (MWL cI cC cQ adx V) H) (hP7 : va_P D vwCl (RM cI adm w) H) (hI : R6I V) (hR : REL V w) (kk : ∀ (H : Heap) (locs : List Loc) (V : Nat → Nat → Nat → Int32) (w : Nat → Nat → Int32), va_P D vwCl (MWL cI cC cQ adx V) H → va_P D vwCl (RM cI adm w) H → R6I V → REL V w → va_S (fun q : Nat => s.heap.size ≤ q) s.heap H locs → W p l e room_1 s m #[Value.ref b] below meth c H locs cells slots Q (F0 m 1036 ls [])) : W p l e room_1 s m #[Value.ref b] below meth c H locs cells slots Q (F0 m 987 ls []) := by
  obtain ⟨hx, hb, hml, hown, hts, hX, hbl, hK, hN, hSE, hST, hd, hdm, hA6, hA7, hdis⟩ := E
  have hbA : ¬ (fun q : Nat => s.heap.size ≤ q) b := Nat.not_le.mpr hbl
  refine lv_aload_n hx hb dL_law_987 rfl (lv_at hl 1 rfl) ?_
  refine va_calli (va_runV (As := []) (rest := []) ⟨hx, hb, hml, hown, hts⟩ (kX6_image l D cI cC cQ adx sd aK aV V  hd hI) (cwV 0 hts gL_law_X6_image rfl rfl rfl mdX6_image ⟨Nat.le_of_ble_eq_true rfl, Nat.le_of_ble_eq_true rfl⟩) (x6_preL hK hP6 hN hSE hST hA6 hS) rfl rfl hl.1 rfl (lv_room (Nat.le_of_ble_eq_true rfl)) dL_law_988 ⟨hcs.1, hcs.2⟩) hS (fun q _ h => hA6 q h) (fun q h => hA6 q h) (fun r6 V1 t H1 locs1 ht hvm hp6 hB hz hfr hS1 => ?_)
  rw [ht] at hB
  have hP71 := keep7 hP7 hdis hfr
  refine lv_aload_n hx hb dL_law_991 rfl (lv_at hl 2 rfl) ?_
  refine va_calli (va_runV (As := []) (rest := [.int r6]) ⟨hx, hb, hml, hown, hts⟩ (kX7_image l D cI adm w  hdm hR.R7) (cwV 0 hts gL_law_X7_image rfl rfl rfl mdX7_image ⟨Nat.le_of_ble_eq_true rfl, Nat.le_of_ble_eq_true rfl⟩) (x7_preL (hK.sub [0] rfl) hP71) rfl rfl hl.1 rfl (lv_room (Nat.le_of_ble_eq_true rfl)) dL_law_992 ⟨hcs.1, hcs.2⟩) hS1 (fun q _ h => hA7 q h) (fun q h => hA7 q h) (fun r7 w1 t2 H2 locs2 ht2 hvm2 hp7 hB7 hz2 hfr2 hS2 => ?_)
  rw [ht2] at hB7
  have hO := S_image hR 
  rw [← hp6.1, ← hp7] at hO
  have hP62 := keep6 hB hdis hfr2
  exact lv_icmp_eq (tgt := 1036) hx hb dL_law_995 (by decide) (fun _ => kk H2 locs2 V1 w1 hP62 hB7 hp6.2 hO.2 hS2) (fun hne => absurd hO.1 hne)
set_option maxHeartbeats 4000000 in
set_option maxRecDepth 100000 in
theorem law_on (E : LAW p s m c b L xs D cI cC cQ adx adm sd aK aV) (hcs : cells ≤ 600000 ∧ slots ≤ 7302250) (hl : lv_has ls 4 [(0, .ref b), (1, .ref (adx 5 0)), (2, .ref (adm 0)), (3, .int x3)]) (h_1 : vp_in (x3 + 1) L) (h_2 : vp_in (x3 + 2) L) (h_3 : vp_in (x3 + 3) L) (hS : va_S (fun q : Nat => s.heap.size ≤ q) s.heap H locs) (hP6 : va_P D vwCl (MWL cI cC cQ adx V) H) (hP7 : va_P D vwCl (RM cI adm w) H) (hI : R6I V) (hR : REL V w) (kk : ∀ (H : Heap) (locs : List Loc) (V : Nat → Nat → Nat → Int32) (w : Nat → Nat → Int32), va_P D vwCl (MWL cI cC cQ adx V) H → va_P D vwCl (RM cI adm w) H → R6I V → REL V w → va_S (fun q : Nat => s.heap.size ≤ q) s.heap H locs → W p l e room_1 s m #[Value.ref b] below meth c H locs cells slots Q (F0 m 1036 ls [])) : W p l e room_1 s m #[Value.ref b] below meth c H locs cells slots Q (F0 m 1000 ls []) := by
  obtain ⟨hx, hb, hml, hown, hts, hX, hbl, hK, hN, hSE, hST, hd, hdm, hA6, hA7, hdis⟩ := E
  have hbA : ¬ (fun q : Nat => s.heap.size ≤ q) b := Nat.not_le.mpr hbl
  refine lv_aload_n hx hb dL_law_1000 rfl (lv_at hl 1 rfl) ?_
  refine va_calli (va_runV (As := []) (rest := []) ⟨hx, hb, hml, hown, hts⟩ (kX6_on l D cI cC cQ adx sd aK aV V  hd hI) (cwV 0 hts gL_law_X6_on rfl rfl rfl mdX6_on ⟨Nat.le_of_ble_eq_true rfl, Nat.le_of_ble_eq_true rfl⟩) (x6_preL hK hP6 hN hSE hST hA6 hS) rfl rfl hl.1 rfl (lv_room (Nat.le_of_ble_eq_true rfl)) dL_law_1001 ⟨hcs.1, hcs.2⟩) hS (fun q _ h => hA6 q h) (fun q h => hA6 q h) (fun r6 V1 t H1 locs1 ht hvm hp6 hB hz hfr hS1 => ?_)
  rw [ht] at hB
  have hP71 := keep7 hP7 hdis hfr
  refine lv_aload_n hx hb dL_law_1004 rfl (lv_at hl 2 rfl) ?_
  refine va_calli (va_runV (As := []) (rest := [.int r6]) ⟨hx, hb, hml, hown, hts⟩ (kX7_on l D cI adm w  hdm hR.R7) (cwV 0 hts gL_law_X7_on rfl rfl rfl mdX7_on ⟨Nat.le_of_ble_eq_true rfl, Nat.le_of_ble_eq_true rfl⟩) (x7_preL (hK.sub [0] rfl) hP71) rfl rfl hl.1 rfl (lv_room (Nat.le_of_ble_eq_true rfl)) dL_law_1005 ⟨hcs.1, hcs.2⟩) hS1 (fun q _ h => hA7 q h) (fun q h => hA7 q h) (fun r7 w1 t2 H2 locs2 ht2 hvm2 hp7 hB7 hz2 hfr2 hS2 => ?_)
  rw [ht2] at hB7
  have hO := S_on hR 
  rw [← hp6.1, ← hp7] at hO
  have hP62 := keep6 hB hdis hfr2
  exact lv_icmp_eq (tgt := 1036) hx hb dL_law_1008 (by decide) (fun _ => kk H2 locs2 V1 w1 hP62 hB7 hp6.2 hO.2 hS2) (fun hne => absurd hO.1 hne)
set_option maxHeartbeats 4000000 in
set_option maxRecDepth 100000 in
theorem law_count (E : LAW p s m c b L xs D cI cC cQ adx adm sd aK aV) (hcs : cells ≤ 600000 ∧ slots ≤ 7302250) (hl : lv_has ls 4 [(0, .ref b), (1, .ref (adx 5 0)), (2, .ref (adm 0)), (3, .int x3)]) (h_1 : vp_in (x3 + 1) L) (h_2 : vp_in (x3 + 2) L) (h_3 : vp_in (x3 + 3) L) (hS : va_S (fun q : Nat => s.heap.size ≤ q) s.heap H locs) (hP6 : va_P D vwCl (MWL cI cC cQ adx V) H) (hP7 : va_P D vwCl (RM cI adm w) H) (hI : R6I V) (hR : REL V w) (kk : ∀ (H : Heap) (locs : List Loc) (V : Nat → Nat → Nat → Int32) (w : Nat → Nat → Int32), va_P D vwCl (MWL cI cC cQ adx V) H → va_P D vwCl (RM cI adm w) H → R6I V → REL V w → va_S (fun q : Nat => s.heap.size ≤ q) s.heap H locs → W p l e room_1 s m #[Value.ref b] below meth c H locs cells slots Q (F0 m 1036 ls [])) : W p l e room_1 s m #[Value.ref b] below meth c H locs cells slots Q (F0 m 1013 ls []) := by
  obtain ⟨hx, hb, hml, hown, hts, hX, hbl, hK, hN, hSE, hST, hd, hdm, hA6, hA7, hdis⟩ := E
  have hbA : ¬ (fun q : Nat => s.heap.size ≤ q) b := Nat.not_le.mpr hbl
  refine lv_aload_n hx hb dL_law_1013 rfl (lv_at hl 1 rfl) ?_
  refine lv_aload_n hx hb dL_law_1014 rfl (lv_at hl 0 rfl) ?_
  refine lv_iload_n hx hb dL_law_1015 rfl (lv_at hl 3 rfl) ?_
  refine lv_iconst (v := 1) hx hb dL_law_1016 (by decide) ?_
  refine lv_iadd hx hb dL_law_1017 ?_
  refine va_sld hx hb hX hbl hbA hS h_1 dL_law_1018 ?_
  refine vp_callSi (va_Run.run (va_runV (As := [.int (xs (x3 + 1).toNatClampNeg)]) (rest := []) ⟨hx, hb, hml, hown, hts⟩ (kX6_count l D cI cC cQ adx sd aK aV V (xs (x3 + 1).toNatClampNeg) hI) (cwV 1 hts gL_law_X6_count rfl rfl rfl mdX6_count ⟨Nat.le_of_ble_eq_true rfl, Nat.le_of_ble_eq_true rfl⟩) (x6_preL hK hP6 hN hSE hST hA6 hS) rfl rfl hl.1 rfl (lv_room (Nat.le_of_ble_eq_true rfl)) dL_law_1019 ⟨hcs.1, hcs.2⟩)) (fun r6 hr6 => ?_)
  have hr6 : r6 = sX6_count V (xs (x3 + 1).toNatClampNeg) := hr6
  have hP71 := hP7
  refine lv_aload_n hx hb dL_law_1022 rfl (lv_at hl 2 rfl) ?_
  refine lv_aload_n hx hb dL_law_1023 rfl (lv_at hl 0 rfl) ?_
  refine lv_iload_n hx hb dL_law_1024 rfl (lv_at hl 3 rfl) ?_
  refine lv_iconst (v := 1) hx hb dL_law_1025 (by decide) ?_
  refine lv_iadd hx hb dL_law_1026 ?_
  refine va_sld hx hb hX hbl hbA hS h_1 dL_law_1027 ?_
  refine vp_callSi (va_Run.run (va_runV (As := [.int (xs (x3 + 1).toNatClampNeg)]) (rest := [.int r6]) ⟨hx, hb, hml, hown, hts⟩ (kX7_count l D cI adm w (xs (x3 + 1).toNatClampNeg) hR.R7) (cwV 1 hts gL_law_X7_count rfl rfl rfl mdX7_count ⟨Nat.le_of_ble_eq_true rfl, Nat.le_of_ble_eq_true rfl⟩) (x7_preL (hK.sub [0] rfl) hP71) rfl rfl hl.1 rfl (lv_room (Nat.le_of_ble_eq_true rfl)) dL_law_1028 ⟨hcs.1, hcs.2⟩)) (fun r7 hr7 => ?_)
  have hr7 : r7 = sX7_count w (xs (x3 + 1).toNatClampNeg) := hr7
  have hO := S_count hR (xs (x3 + 1).toNatClampNeg)
  rw [← hr6, ← hr7] at hO
  exact lv_icmp_eq (tgt := 1036) hx hb dL_law_1031 (by decide) (fun _ => kk H locs V w hP6 hP71 hI hR hS) (fun hne => absurd hO hne)
end LAWO24
