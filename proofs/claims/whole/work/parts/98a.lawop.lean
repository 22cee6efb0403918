section LAWO0
variable {p : Program} {l : Launch} {e : Env} {s : State} {m : MethodId} {below : List Frame} {meth : Method} {c : Code} {b L : Nat} {xs : Nat → Int32} {D : va_G} {cI cC cQ : ClassId} {adx : Nat → Nat → Nat} {adm sd aK aV : Nat → Nat} {H : Heap} {locs : List Loc} {cells slots : Nat} {Q : State → Prop} {V : Nat → Nat → Nat → Int32} {w : Nat → Nat → Int32} {x3 : Int32} {ls : Array Slot}
set_option maxHeartbeats 4000000 in
set_option maxRecDepth 100000 in
theorem law_letter (E : LAW p s m c b L xs D cI cC cQ adx adm sd aK aV) (hcs : cells ≤ 600000 ∧ slots ≤ 7302250) (hl : lv_has ls 4 [(0, .ref b), (1, .ref (adx 5 0)), (2, .ref (adm 0)), (3, .int x3)]) (h_1 : vp_in (x3 + 1) L) (h_2 : vp_in (x3 + 2) L) (h_3 : vp_in (x3 + 3) L) (hS : va_S (fun q : Nat => s.heap.size ≤ q) s.heap H locs) (hP6 : va_P D vwCl (MWL cI cC cQ adx V) H) (hP7 : va_P D vwCl (RM cI adm w) H) (hI : R6I V) (hR : REL V w) (kk : ∀ (H : Heap) (locs : List Loc) (V : Nat → Nat → Nat → Int32) (w : Nat → Nat → Int32), va_P D vwCl (MWL cI cC cQ adx V) H → va_P D vwCl (RM cI adm w) H → R6I V → REL V w → va_S (fun q : Nat => s.heap.size ≤ q) s.heap H locs → W p l e room_1 s m #[Value.ref b] below meth c H locs cells slots Q (F0 m 1036 ls [])) : W p l e room_1 s m #[Value.ref b] below meth c H locs cells slots Q (F0 m 172 ls []) := by
  obtain ⟨hx, hb, hml, hown, hts, hX, hbl, hK, hN, hSE, hST, hd, hdm, hA6, hA7, hdis⟩ := E
  have hbA : ¬ (fun q : Nat => s.heap.size ≤ q) b := Nat.not_le.mpr hbl
  refine lv_aload_n hx hb dL_law_172 rfl (lv_at hl 1 rfl) ?_
  refine lv_aload_n hx hb dL_law_173 rfl (lv_at hl 0 rfl) ?_
  refine lv_iload_n hx hb dL_law_174 rfl (lv_at hl 3 rfl) ?_
  refine lv_iconst (v := 1) hx hb dL_law_175 (by decide) ?_
  refine lv_iadd hx hb dL_law_176 ?_
  refine va_sld hx hb hX hbl hbA hS h_1 dL_law_177 ?_
  refine va_calli (va_runV (As := [.int (xs (x3 + 1).toNatClampNeg)]) (rest := []) ⟨hx, hb, hml, hown, hts⟩ (kX6_letter l D cI cC cQ adx sd aK aV V (xs (x3 + 1).toNatClampNeg) hd hI) (cwV 1 hts gL_law_X6_letter rfl rfl rfl mdX6_letter ⟨Nat.le_of_ble_eq_true rfl, Nat.le_of_ble_eq_true rfl⟩) (x6_preL hK hP6 hN hSE hST hA6 hS) rfl rfl hl.1 rfl (lv_room (Nat.le_of_ble_eq_true rfl)) dL_law_178 ⟨hcs.1, hcs.2⟩) hS (fun q _ h => hA6 q h) (fun q h => hA6 q h) (fun r6 V1 t H1 locs1 ht hvm hp6 hB hz hfr hS1 => ?_)
  rw [ht] at hB
  have hP71 := keep7 hP7 hdis hfr
  refine lv_aload_n hx hb dL_law_181 rfl (lv_at hl 2 rfl) ?_
  refine lv_aload_n hx hb dL_law_182 rfl (lv_at hl 0 rfl) ?_
  refine lv_iload_n hx hb dL_law_183 rfl (lv_at hl 3 rfl) ?_
  refine lv_iconst (v := 1) hx hb dL_law_184 (by decide) ?_
  refine lv_iadd hx hb dL_law_185 ?_
  refine va_sld hx hb hX hbl hbA hS1 h_1 dL_law_186 ?_
  refine va_calli (va_runV (As := [.int (xs (x3 + 1).toNatClampNeg)]) (rest := [.int r6]) ⟨hx, hb, hml, hown, hts⟩ (kX7_letter l D cI adm w (xs (x3 + 1).toNatClampNeg) hdm hR.R7) (cwV 1 hts gL_law_X7_letter rfl rfl rfl mdX7_letter ⟨Nat.le_of_ble_eq_true rfl, Nat.le_of_ble_eq_true rfl⟩) (x7_preL (hK.sub [0] rfl) hP71) rfl rfl hl.1 rfl (lv_room (Nat.le_of_ble_eq_true rfl)) dL_law_187 ⟨hcs.1, hcs.2⟩) hS1 (fun q _ h => hA7 q h) (fun q h => hA7 q h) (fun r7 w1 t2 H2 locs2 ht2 hvm2 hp7 hB7 hz2 hfr2 hS2 => ?_)
  rw [ht2] at hB7
  have hO := S_letter hR (xs (x3 + 1).toNatClampNeg)
  rw [← hp6.1, ← hp7.1] at hO
  have hP62 := keep6 hB hdis hfr2
  exact lv_icmp_eq (tgt := 1036) hx hb dL_law_190 (by decide) (fun _ => kk H2 locs2 V1 w1 hP62 hB7 hp6.2 hO.2 hS2) (fun hne => absurd hO.1 hne)
set_option maxHeartbeats 4000000 in
set_option maxRecDepth 100000 in
theorem law_load (E : LAW p s m c b L xs D cI cC cQ adx adm sd aK aV) (hcs : cells ≤ 600000 ∧ slots ≤ 7302250) (hl : lv_has ls 4 [(0, .ref b), (1, .ref (adx 5 0)), (2, .ref (adm 0)), (3, .int x3)]) (h_1 : vp_in (x3 + 1) L) (h_2 : vp_in (x3 + 2) L) (h_3 : vp_in (x3 + 3) L) (hS : va_S (fun q : Nat => s.heap.size ≤ q) s.heap H locs) (hP6 : va_P D vwCl (MWL cI cC cQ adx V) H) (hP7 : va_P D vwCl (RM cI adm w) H) (hI : R6I V) (hR : REL V w) (kk : ∀ (H : Heap) (locs : List Loc) (V : Nat → Nat → Nat → Int32) (w : Nat → Nat → Int32), va_P D vwCl (MWL cI cC cQ adx V) H → va_P D vwCl (RM cI adm w) H → R6I V → REL V w → va_S (fun q : Nat => s.heap.size ≤ q) s.heap H locs → W p l e room_1 s m #[Value.ref b] below meth c H locs cells slots Q (F0 m 1036 ls [])) : W p l e room_1 s m #[Value.ref b] below meth c H locs cells slots Q (F0 m 195 ls []) := by
  obtain ⟨hx, hb, hml, hown, hts, hX, hbl, hK, hN, hSE, hST, hd, hdm, hA6, hA7, hdis⟩ := E
  have hbA : ¬ (fun q : Nat => s.heap.size ≤ q) b := Nat.not_le.mpr hbl
  refine lv_aload_n hx hb dL_law_195 rfl (lv_at hl 1 rfl) ?_
  refine va_calli (va_runV (As := []) (rest := []) ⟨hx, hb, hml, hown, hts⟩ (kX6_load l D cI cC cQ adx sd aK aV V  hd hI) (cwV 0 hts gL_law_X6_load rfl rfl rfl mdX6_load ⟨Nat.le_of_ble_eq_true rfl, Nat.le_of_ble_eq_true rfl⟩) (x6_preL hK hP6 hN hSE hST hA6 hS) rfl rfl hl.1 rfl (lv_room (Nat.le_of_ble_eq_true rfl)) dL_law_196 ⟨hcs.1, hcs.2⟩) hS (fun q _ h => hA6 q h) (fun q h => hA6 q h) (fun r6 V1 t H1 locs1 ht hvm hp6 hB hz hfr hS1 => ?_)
  rw [ht] at hB
  have hP71 := keep7 hP7 hdis hfr
  refine lv_aload_n hx hb dL_law_199 rfl (lv_at hl 2 rfl) ?_
  refine va_calli (va_runV (As := []) (rest := [.int r6]) ⟨hx, hb, hml, hown, hts⟩ (kX7_load l D cI adm w  hdm hR.R7 hR.n11) (cwV 0 hts gL_law_X7_load rfl rfl rfl mdX7_load ⟨Nat.le_of_ble_eq_true rfl, Nat.le_of_ble_eq_true rfl⟩) (x7_preL (hK.sub [0] rfl) hP71) rfl rfl hl.1 rfl (lv_room (Nat.le_of_ble_eq_true rfl)) dL_law_200 ⟨hcs.1, hcs.2⟩) hS1 (fun q _ h => hA7 q h) (fun q h => hA7 q h) (fun r7 w1 t2 H2 locs2 ht2 hvm2 hp7 hB7 hz2 hfr2 hS2 => ?_)
  rw [ht2] at hB7
  have hO := S_load hR 
  rw [← hp6.1, ← hp7] at hO
  have hP62 := keep6 hB hdis hfr2
  exact lv_icmp_eq (tgt := 1036) hx hb dL_law_203 (by decide) (fun _ => kk H2 locs2 V1 w1 hP62 hB7 hp6.2 hO.2 hS2) (fun hne => absurd hO.1 hne)
set_option maxHeartbeats 4000000 in
set_option maxRecDepth 100000 in
theorem law_layer (E : LAW p s m c b L xs D cI cC cQ adx adm sd aK aV) (hcs : cells ≤ 600000 ∧ slots ≤ 7302250) (hl : lv_has ls 4 [(0, .ref b), (1, .ref (adx 5 0)), (2, .ref (adm 0)), (3, .int x3)]) (h_1 : vp_in (x3 + 1) L) (h_2 : vp_in (x3 + 2) L) (h_3 : vp_in (x3 + 3) L) (hS : va_S (fun q : Nat => s.heap.size ≤ q) s.heap H locs) (hP6 : va_P D vwCl (MWL cI cC cQ adx V) H) (hP7 : va_P D vwCl (RM cI adm w) H) (hI : R6I V) (hR : REL V w) (kk : ∀ (H : Heap) (locs : List Loc) (V : Nat → Nat → Nat → Int32) (w : Nat → Nat → Int32), va_P D vwCl (MWL cI cC cQ adx V) H → va_P D vwCl (RM cI adm w) H → R6I V → REL V w → va_S (fun q : Nat => s.heap.size ≤ q) s.heap H locs → W p l e room_1 s m #[Value.ref b] below meth c H locs cells slots Q (F0 m 1036 ls [])) : W p l e room_1 s m #[Value.ref b] below meth c H locs cells slots Q (F0 m 208 ls []) := by
  obtain ⟨hx, hb, hml, hown, hts, hX, hbl, hK, hN, hSE, hST, hd, hdm, hA6, hA7, hdis⟩ := E
  have hbA : ¬ (fun q : Nat => s.heap.size ≤ q) b := Nat.not_le.mpr hbl
  refine lv_aload_n hx hb dL_law_208 rfl (lv_at hl 1 rfl) ?_
  refine lv_aload_n hx hb dL_law_209 rfl (lv_at hl 0 rfl) ?_
  refine lv_iload_n hx hb dL_law_210 rfl (lv_at hl 3 rfl) ?_
  refine lv_iconst (v := 1) hx hb dL_law_211 (by decide) ?_
  refine lv_iadd hx hb dL_law_212 ?_
  refine va_sld hx hb hX hbl hbA hS h_1 dL_law_213 ?_
  refine lv_aload_n hx hb dL_law_214 rfl (lv_at hl 0 rfl) ?_
  refine lv_iload_n hx hb dL_law_215 rfl (lv_at hl 3 rfl) ?_
  refine lv_iconst (v := 2) hx hb dL_law_216 (by decide) ?_
  refine lv_iadd hx hb dL_law_217 ?_
  refine va_sld hx hb hX hbl hbA hS h_2 dL_law_218 ?_
  refine va_calli (va_runV (As := [.int (xs (x3 + 1).toNatClampNeg), .int (xs (x3 + 2).toNatClampNeg)]) (rest := []) ⟨hx, hb, hml, hown, hts⟩ (kX6_layer l D cI cC cQ adx sd aK aV V (xs (x3 + 1).toNatClampNeg) (xs (x3 + 2).toNatClampNeg) hd hI) (cwV 2 hts gL_law_X6_layer rfl rfl rfl mdX6_layer ⟨Nat.le_of_ble_eq_true rfl, Nat.le_of_ble_eq_true rfl⟩) (x6_preL hK hP6 hN hSE hST hA6 hS) rfl rfl hl.1 rfl (lv_room (Nat.le_of_ble_eq_true rfl)) dL_law_219 ⟨hcs.1, hcs.2⟩) hS (fun q _ h => hA6 q h) (fun q h => hA6 q h) (fun r6 V1 t H1 locs1 ht hvm hp6 hB hz hfr hS1 => ?_)
  rw [ht] at hB
  have hP71 := keep7 hP7 hdis hfr
  refine lv_aload_n hx hb dL_law_222 rfl (lv_at hl 2 rfl) ?_
  refine lv_aload_n hx hb dL_law_223 rfl (lv_at hl 0 rfl) ?_
  refine lv_iload_n hx hb dL_law_224 rfl (lv_at hl 3 rfl) ?_
  refine lv_iconst (v := 1) hx hb dL_law_225 (by decide) ?_
  refine lv_iadd hx hb dL_law_226 ?_
  refine va_sld hx hb hX hbl hbA hS1 h_1 dL_law_227 ?_
  refine lv_aload_n hx hb dL_law_228 rfl (lv_at hl 0 rfl) ?_
  refine lv_iload_n hx hb dL_law_229 rfl (lv_at hl 3 rfl) ?_
  refine lv_iconst (v := 2) hx hb dL_law_230 (by decide) ?_
  refine lv_iadd hx hb dL_law_231 ?_
  refine va_sld hx hb hX hbl hbA hS1 h_2 dL_law_232 ?_
  refine va_calli (va_runV (As := [.int (xs (x3 + 1).toNatClampNeg), .int (xs (x3 + 2).toNatClampNeg)]) (rest := [.int r6]) ⟨hx, hb, hml, hown, hts⟩ (kX7_layer l D cI adm w (xs (x3 + 1).toNatClampNeg) (xs (x3 + 2).toNatClampNeg) hdm hR.R7) (cwV 2 hts gL_law_X7_layer rfl rfl rfl mdX7_layer ⟨Nat.le_of_ble_eq_true rfl, Nat.le_of_ble_eq_true rfl⟩) (x7_preL (hK.sub [0] rfl) hP71) rfl rfl hl.1 rfl (lv_room (Nat.le_of_ble_eq_true rfl)) dL_law_233 ⟨hcs.1, hcs.2⟩) hS1 (fun q _ h => hA7 q h) (fun q h => hA7 q h) (fun r7 w1 t2 H2 locs2 ht2 hvm2 hp7 hB7 hz2 hfr2 hS2 => ?_)
  rw [ht2] at hB7
  have hO := S_layer hR (xs (x3 + 1).toNatClampNeg) (xs (x3 + 2).toNatClampNeg)
  rw [← hp6.1, ← hp7] at hO
  have hP62 := keep6 hB hdis hfr2
  exact lv_icmp_eq (tgt := 1036) hx hb dL_law_236 (by decide) (fun _ => kk H2 locs2 V1 w1 hP62 hB7 hp6.2 hO.2 hS2) (fun hne => absurd hO.1 hne)
set_option maxHeartbeats 4000000 in
set_option maxRecDepth 100000 in
theorem law_piece (E : LAW p s m c b L xs D cI cC cQ adx adm sd aK aV) (hcs : cells ≤ 600000 ∧ slots ≤ 7302250) (hl : lv_has ls 4 [(0, .ref b), (1, .ref (adx 5 0)), (2, .ref (adm 0)), (3, .int x3)]) (h_1 : vp_in (x3 + 1) L) (h_2 : vp_in (x3 + 2) L) (h_3 : vp_in (x3 + 3) L) (hS : va_S (fun q : Nat => s.heap.size ≤ q) s.heap H locs) (hP6 : va_P D vwCl (MWL cI cC cQ adx V) H) (hP7 : va_P D vwCl (RM cI adm w) H) (hI : R6I V) (hR : REL V w) (kk : ∀ (H : Heap) (locs : List Loc) (V : Nat → Nat → Nat → Int32) (w : Nat → Nat → Int32), va_P D vwCl (MWL cI cC cQ adx V) H → va_P D vwCl (RM cI adm w) H → R6I V → REL V w → va_S (fun q : Nat => s.heap.size ≤ q) s.heap H locs → W p l e room_1 s m #[Value.ref b] below meth c H locs cells slots Q (F0 m 1036 ls [])) : W p l e room_1 s m #[Value.ref b] below meth c H locs cells slots Q (F0 m 241 ls []) := by
  obtain ⟨hx, hb, hml, hown, hts, hX, hbl, hK, hN, hSE, hST, hd, hdm, hA6, hA7, hdis⟩ := E
  have hbA : ¬ (fun q : Nat => s.heap.size ≤ q) b := Nat.not_le.mpr hbl
  refine lv_aload_n hx hb dL_law_241 rfl (lv_at hl 1 rfl) ?_
  refine lv_aload_n hx hb dL_law_242 rfl (lv_at hl 0 rfl) ?_
  refine lv_iload_n hx hb dL_law_243 rfl (lv_at hl 3 rfl) ?_
  refine lv_iconst (v := 1) hx hb dL_law_244 (by decide) ?_
  refine lv_iadd hx hb dL_law_245 ?_
  refine va_sld hx hb hX hbl hbA hS h_1 dL_law_246 ?_
  refine lv_aload_n hx hb dL_law_247 rfl (lv_at hl 0 rfl) ?_
  refine lv_iload_n hx hb dL_law_248 rfl (lv_at hl 3 rfl) ?_
  refine lv_iconst (v := 2) hx hb dL_law_249 (by decide) ?_
  refine lv_iadd hx hb dL_law_250 ?_
  refine va_sld hx hb hX hbl hbA hS h_2 dL_law_251 ?_
  refine lv_aload_n hx hb dL_law_252 rfl (lv_at hl 0 rfl) ?_
  refine lv_iload_n hx hb dL_law_253 rfl (lv_at hl 3 rfl) ?_
  refine lv_iconst (v := 3) hx hb dL_law_254 (by decide) ?_
  refine lv_iadd hx hb dL_law_255 ?_
  refine va_sld hx hb hX hbl hbA hS h_3 dL_law_256 ?_
  refine va_calli (va_runV (As := [.int (xs (x3 + 1).toNatClampNeg), .int (xs (x3 + 2).toNatClampNeg), .int (xs (x3 + 3).toNatClampNeg)]) (rest := []) ⟨hx, hb, hml, hown, hts⟩ (kX6_piece l D cI cC cQ adx sd aK aV V (xs (x3 + 1).toNatClampNeg) (xs (x3 + 2).toNatClampNeg) (xs (x3 + 3).toNatClampNeg) hd hI) (cwV 3 hts gL_law_X6_piece rfl rfl rfl mdX6_piece ⟨Nat.le_of_ble_eq_true rfl, Nat.le_of_ble_eq_true rfl⟩) (x6_preL hK hP6 hN hSE hST hA6 hS) rfl rfl hl.1 rfl (lv_room (Nat.le_of_ble_eq_true rfl)) dL_law_257 ⟨hcs.1, hcs.2⟩) hS (fun q _ h => hA6 q h) (fun q h => hA6 q h) (fun r6 V1 t H1 locs1 ht hvm hp6 hB hz hfr hS1 => ?_)
  rw [ht] at hB
  have hP71 := keep7 hP7 hdis hfr
  refine lv_aload_n hx hb dL_law_260 rfl (lv_at hl 2 rfl) ?_
  refine lv_aload_n hx hb dL_law_261 rfl (lv_at hl 0 rfl) ?_
  refine lv_iload_n hx hb dL_law_262 rfl (lv_at hl 3 rfl) ?_
  refine lv_iconst (v := 1) hx hb dL_law_263 (by decide) ?_
  refine lv_iadd hx hb dL_law_264 ?_
  refine va_sld hx hb hX hbl hbA hS1 h_1 dL_law_265 ?_
  refine lv_aload_n hx hb dL_law_266 rfl (lv_at hl 0 rfl) ?_
  refine lv_iload_n hx hb dL_law_267 rfl (lv_at hl 3 rfl) ?_
  refine lv_iconst (v := 2) hx hb dL_law_268 (by decide) ?_
  refine lv_iadd hx hb dL_law_269 ?_
  refine va_sld hx hb hX hbl hbA hS1 h_2 dL_law_270 ?_
  refine lv_aload_n hx hb dL_law_271 rfl (lv_at hl 0 rfl) ?_
  refine lv_iload_n hx hb dL_law_272 rfl (lv_at hl 3 rfl) ?_
  refine lv_iconst (v := 3) hx hb dL_law_273 (by decide) ?_
  refine lv_iadd hx hb dL_law_274 ?_
  refine va_sld hx hb hX hbl hbA hS1 h_3 dL_law_275 ?_
  refine va_calli (va_runV (As := [.int (xs (x3 + 1).toNatClampNeg), .int (xs (x3 + 2).toNatClampNeg), .int (xs (x3 + 3).toNatClampNeg)]) (rest := [.int r6]) ⟨hx, hb, hml, hown, hts⟩ (kX7_piece l D cI adm w (xs (x3 + 1).toNatClampNeg) (xs (x3 + 2).toNatClampNeg) (xs (x3 + 3).toNatClampNeg) hdm hR.R7) (cwV 3 hts gL_law_X7_piece rfl rfl rfl mdX7_piece ⟨Nat.le_of_ble_eq_true rfl, Nat.le_of_ble_eq_true rfl⟩) (x7_preL (hK.sub [0] rfl) hP71) rfl rfl hl.1 rfl (lv_room (Nat.le_of_ble_eq_true rfl)) dL_law_276 ⟨hcs.1, hcs.2⟩) hS1 (fun q _ h => hA7 q h) (fun q h => hA7 q h) (fun r7 w1 t2 H2 locs2 ht2 hvm2 hp7 hB7 hz2 hfr2 hS2 => ?_)
  rw [ht2] at hB7
  have hO := S_piece hR (xs (x3 + 1).toNatClampNeg) (xs (x3 + 2).toNatClampNeg) (xs (x3 + 3).toNatClampNeg)
  rw [← hp6.1, ← hp7] at hO
  have hP62 := keep6 hB hdis hfr2
  exact lv_icmp_eq (tgt := 1036) hx hb dL_law_279 (by decide) (fun _ => kk H2 locs2 V1 w1 hP62 hB7 hp6.2 hO.2 hS2) (fun hne => absurd hO.1 hne)
set_option maxHeartbeats 4000000 in
set_option maxRecDepth 100000 in
theorem law_off (E : LAW p s m c b L xs D cI cC cQ adx adm sd aK aV) (hcs : cells ≤ 600000 ∧ slots ≤ 7302250) (hl : lv_has ls 4 [(0, .ref b), (1, .ref (adx 5 0)), (2, .ref (adm 0)), (3, .int x3)]) (h_1 : vp_in (x3 + 1) L) (h_2 : vp_in (x3 + 2) L) (h_3 : vp_in (x3 + 3) L) (hS : va_S (fun q : Nat => s.heap.size ≤ q) s.heap H locs) (hP6 : va_P D vwCl (MWL cI cC cQ adx V) H) (hP7 : va_P D vwCl (RM cI adm w) H) (hI : R6I V) (hR : REL V w) (kk : ∀ (H : Heap) (locs : List Loc) (V : Nat → Nat → Nat → Int32) (w : Nat → Nat → Int32), va_P D vwCl (MWL cI cC cQ adx V) H → va_P D vwCl (RM cI adm w) H → R6I V → REL V w → va_S (fun q : Nat => s.heap.size ≤ q) s.heap H locs → W p l e room_1 s m #[Value.ref b] below meth c H locs cells slots Q (F0 m 1036 ls [])) : W p l e room_1 s m #[Value.ref b] below meth c H locs cells slots Q (F0 m 284 ls []) := by
  obtain ⟨hx, hb, hml, hown, hts, hX, hbl, hK, hN, hSE, hST, hd, hdm, hA6, hA7, hdis⟩ := E
  have hbA : ¬ (fun q : Nat => s.heap.size ≤ q) b := Nat.not_le.mpr hbl
  refine lv_aload_n hx hb dL_law_284 rfl (lv_at hl 1 rfl) ?_
  refine va_calli (va_runV (As := []) (rest := []) ⟨hx, hb, hml, hown, hts⟩ (kX6_off l D cI cC cQ adx sd aK aV V  hd hI) (cwV 0 hts gL_law_X6_off rfl rfl rfl mdX6_off ⟨Nat.le_of_ble_eq_true rfl, Nat.le_of_ble_eq_true rfl⟩) (x6_preL hK hP6 hN hSE hST hA6 hS) rfl rfl hl.1 rfl (lv_room (Nat.le_of_ble_eq_true rfl)) dL_law_285 ⟨hcs.1, hcs.2⟩) hS (fun q _ h => hA6 q h) (fun q h => hA6 q h) (fun r6 V1 t H1 locs1 ht hvm hp6 hB hz hfr hS1 => ?_)
  rw [ht] at hB
  have hP71 := keep7 hP7 hdis hfr
  refine lv_aload_n hx hb dL_law_288 rfl (lv_at hl 2 rfl) ?_
  refine va_calli (va_runV (As := []) (rest := [.int r6]) ⟨hx, hb, hml, hown, hts⟩ (kX7_off l D cI adm w  hdm hR.R7) (cwV 0 hts gL_law_X7_off rfl rfl rfl mdX7_off ⟨Nat.le_of_ble_eq_true rfl, Nat.le_of_ble_eq_true rfl⟩) (x7_preL (hK.sub [0] rfl) hP71) rfl rfl hl.1 rfl (lv_room (Nat.le_of_ble_eq_true rfl)) dL_law_289 ⟨hcs.1, hcs.2⟩) hS1 (fun q _ h => hA7 q h) (fun q h => hA7 q h) (fun r7 w1 t2 H2 locs2 ht2 hvm2 hp7 hB7 hz2 hfr2 hS2 => ?_)
  rw [ht2] at hB7
  have hO := S_off hR 
  rw [← hp6.1, ← hp7.1] at hO
  have hP62 := keep6 hB hdis hfr2
  exact lv_icmp_eq (tgt := 1036) hx hb dL_law_292 (by decide) (fun _ => kk H2 locs2 V1 w1 hP62 hB7 hp6.2 hO.2 hS2) (fun hne => absurd hO.1 hne)
set_option maxHeartbeats 4000000 in
set_option maxRecDepth 100000 in
theorem law_out (E : LAW p s m c b L xs D cI cC cQ adx adm sd aK aV) (hcs : cells ≤ 600000 ∧ slots ≤ 7302250) (hl : lv_has ls 4 [(0, .ref b), (1, .ref (adx 5 0)), (2, .ref (adm 0)), (3, .int x3)]) (h_1 : vp_in (x3 + 1) L) (h_2 : vp_in (x3 + 2) L) (h_3 : vp_in (x3 + 3) L) (hS : va_S (fun q : Nat => s.heap.size ≤ q) s.heap H locs) (hP6 : va_P D vwCl (MWL cI cC cQ adx V) H) (hP7 : va_P D vwCl (RM cI adm w) H) (hI : R6I V) (hR : REL V w) (kk : ∀ (H : Heap) (locs : List Loc) (V : Nat → Nat → Nat → Int32) (w : Nat → Nat → Int32), va_P D vwCl (MWL cI cC cQ adx V) H → va_P D vwCl (RM cI adm w) H → R6I V → REL V w → va_S (fun q : Nat => s.heap.size ≤ q) s.heap H locs → W p l e room_1 s m #[Value.ref b] below meth c H locs cells slots Q (F0 m 1036 ls [])) : W p l e room_1 s m #[Value.ref b] below meth c H locs cells slots Q (F0 m 297 ls []) := by
  obtain ⟨hx, hb, hml, hown, hts, hX, hbl, hK, hN, hSE, hST, hd, hdm, hA6, hA7, hdis⟩ := E
  have hbA : ¬ (fun q : Nat => s.heap.size ≤ q) b := Nat.not_le.mpr hbl
  refine lv_aload_n hx hb dL_law_297 rfl (lv_at hl 1 rfl) ?_
  refine lv_aload_n hx hb dL_law_298 rfl (lv_at hl 0 rfl) ?_
  refine lv_iload_n hx hb dL_law_299 rfl (lv_at hl 3 rfl) ?_
  refine lv_iconst (v := 1) hx hb dL_law_300 (by decide) ?_
  refine lv_iadd hx hb dL_law_301 ?_
  refine va_sld hx hb hX hbl hbA hS h_1 dL_law_302 ?_
  refine lv_aload_n hx hb dL_law_303 rfl (lv_at hl 0 rfl) ?_
  refine lv_iload_n hx hb dL_law_304 rfl (lv_at hl 3 rfl) ?_
  refine lv_iconst (v := 2) hx hb dL_law_305 (by decide) ?_
  refine lv_iadd hx hb dL_law_306 ?_
  refine va_sld hx hb hX hbl hbA hS h_2 dL_law_307 ?_
  refine va_calli (va_runV (As := [.int (xs (x3 + 1).toNatClampNeg), .int (xs (x3 + 2).toNatClampNeg)]) (rest := []) ⟨hx, hb, hml, hown, hts⟩ (kX6_out l D cI cC cQ adx sd aK aV V (xs (x3 + 1).toNatClampNeg) (xs (x3 + 2).toNatClampNeg) hd hI) (cwV 2 hts gL_law_X6_out rfl rfl rfl mdX6_out ⟨Nat.le_of_ble_eq_true rfl, Nat.le_of_ble_eq_true rfl⟩) (x6_preL hK hP6 hN hSE hST hA6 hS) rfl rfl hl.1 rfl (lv_room (Nat.le_of_ble_eq_true rfl)) dL_law_308 ⟨hcs.1, hcs.2⟩) hS (fun q _ h => hA6 q h) (fun q h => hA6 q h) (fun r6 V1 t H1 locs1 ht hvm hp6 hB hz hfr hS1 => ?_)
  rw [ht] at hB
  have hP71 := keep7 hP7 hdis hfr
  refine lv_aload_n hx hb dL_law_311 rfl (lv_at hl 2 rfl) ?_
  refine lv_aload_n hx hb dL_law_312 rfl (lv_at hl 0 rfl) ?_
  refine lv_iload_n hx hb dL_law_313 rfl (lv_at hl 3 rfl) ?_
  refine lv_iconst (v := 1) hx hb dL_law_314 (by decide) ?_
  refine lv_iadd hx hb dL_law_315 ?_
  refine va_sld hx hb hX hbl hbA hS1 h_1 dL_law_316 ?_
  refine lv_aload_n hx hb dL_law_317 rfl (lv_at hl 0 rfl) ?_
  refine lv_iload_n hx hb dL_law_318 rfl (lv_at hl 3 rfl) ?_
  refine lv_iconst (v := 2) hx hb dL_law_319 (by decide) ?_
  refine lv_iadd hx hb dL_law_320 ?_
  refine va_sld hx hb hX hbl hbA hS1 h_2 dL_law_321 ?_
  refine va_calli (va_runV (As := [.int (xs (x3 + 1).toNatClampNeg), .int (xs (x3 + 2).toNatClampNeg)]) (rest := [.int r6]) ⟨hx, hb, hml, hown, hts⟩ (kX7_out l D cI adm w (xs (x3 + 1).toNatClampNeg) (xs (x3 + 2).toNatClampNeg) hdm hR.R7) (cwV 2 hts gL_law_X7_out rfl rfl rfl mdX7_out ⟨Nat.le_of_ble_eq_true rfl, Nat.le_of_ble_eq_true rfl⟩) (x7_preL (hK.sub [0] rfl) hP71) rfl rfl hl.1 rfl (lv_room (Nat.le_of_ble_eq_true rfl)) dL_law_322 ⟨hcs.1, hcs.2⟩) hS1 (fun q _ h => hA7 q h) (fun q h => hA7 q h) (fun r7 w1 t2 H2 locs2 ht2 hvm2 hp7 hB7 hz2 hfr2 hS2 => ?_)
  rw [ht2] at hB7
  have hO := S_out hR (xs (x3 + 1).toNatClampNeg) (xs (x3 + 2).toNatClampNeg)
  rw [← hp6.1, ← hp7.1] at hO
  have hP62 := keep6 hB hdis hfr2
  exact lv_icmp_eq (tgt := 1036) hx hb dL_law_325 (by decide) (fun _ => kk H2 locs2 V1 w1 hP62 hB7 hp6.2 hO.2 hS2) (fun hne => absurd hO.1 hne)
set_option maxHeartbeats 4000000 in
set_option maxRecDepth 100000 in
theorem law_set (E : LAW p s m c b L xs D cI cC cQ adx adm sd aK aV) (hcs : cells ≤ 600000 ∧ slots ≤ 7302250) (hl : lv_has ls 4 [(0, .ref b), (1, .ref (adx 5 0)), (2, .ref (adm 0)), (3, .int x3)]) (h_1 : vp_in (x3 + 1) L) (h_2 : vp_in (x3 + 2) L) (h_3 : vp_in (x3 + 3) L) (hS : va_S (fun q : Nat => s.heap.size ≤ q) s.heap H locs) (hP6 : va_P D vwCl (MWL cI cC cQ adx V) H) (hP7 : va_P D vwCl (RM cI adm w) H) (hI : R6I V) (hR : REL V w) (kk : ∀ (H : Heap) (locs : List Loc) (V : Nat → Nat → Nat → Int32) (w : Nat → Nat → Int32), va_P D vwCl (MWL cI cC cQ adx V) H → va_P D vwCl (RM cI adm w) H → R6I V → REL V w → va_S (fun q : Nat => s.heap.size ≤ q) s.heap H locs → W p l e room_1 s m #[Value.ref b] below meth c H locs cells slots Q (F0 m 1036 ls [])) : W p l e room_1 s m #[Value.ref b] below meth c H locs cells slots Q (F0 m 330 ls []) := by
  obtain ⟨hx, hb, hml, hown, hts, hX, hbl, hK, hN, hSE, hST, hd, hdm, hA6, hA7, hdis⟩ := E
  have hbA : ¬ (fun q : Nat => s.heap.size ≤ q) b := Nat.not_le.mpr hbl
  refine lv_aload_n hx hb dL_law_330 rfl (lv_at hl 1 rfl) ?_
  refine lv_aload_n hx hb dL_law_331 rfl (lv_at hl 0 rfl) ?_
  refine lv_iload_n hx hb dL_law_332 rfl (lv_at hl 3 rfl) ?_
  refine lv_iconst (v := 1) hx hb dL_law_333 (by decide) ?_
  refine lv_iadd hx hb dL_law_334 ?_
  refine va_sld hx hb hX hbl hbA hS h_1 dL_law_335 ?_
  refine lv_aload_n hx hb dL_law_336 rfl (lv_at hl 0 rfl) ?_
  refine lv_iload_n hx hb dL_law_337 rfl (lv_at hl 3 rfl) ?_
  refine lv_iconst (v := 2) hx hb dL_law_338 (by decide) ?_
  refine lv_iadd hx hb dL_law_339 ?_
  refine va_sld hx hb hX hbl hbA hS h_2 dL_law_340 ?_
  refine va_calli (va_runV (As := [.int (xs (x3 + 1).toNatClampNeg), .int (xs (x3 + 2).toNatClampNeg)]) (rest := []) ⟨hx, hb, hml, hown, hts⟩ (kX6_set l D cI cC cQ adx sd aK aV V (xs (x3 + 1).toNatClampNeg) (xs (x3 + 2).toNatClampNeg) hd hI) (cwV 2 hts gL_law_X6_set rfl rfl rfl mdX6_set ⟨Nat.le_of_ble_eq_true rfl, Nat.le_of_ble_eq_true rfl⟩) (x6_preL hK hP6 hN hSE hST hA6 hS) rfl rfl hl.1 rfl (lv_room (Nat.le_of_ble_eq_true rfl)) dL_law_341 ⟨hcs.1, hcs.2⟩) hS (fun q _ h => hA6 q h) (fun q h => hA6 q h) (fun r6 V1 t H1 locs1 ht hvm hp6 hB hz hfr hS1 => ?_)
  rw [ht] at hB
  have hP71 := keep7 hP7 hdis hfr
  refine lv_aload_n hx hb dL_law_344 rfl (lv_at hl 2 rfl) ?_
  refine lv_aload_n hx hb dL_law_345 rfl (lv_at hl 0 rfl) ?_
  refine lv_iload_n hx hb dL_law_346 rfl (lv_at hl 3 rfl) ?_
  refine lv_iconst (v := 1) hx hb dL_law_347 (by decide) ?_
  refine lv_iadd hx hb dL_law_348 ?_
  refine va_sld hx hb hX hbl hbA hS1 h_1 dL_law_349 ?_
  refine lv_aload_n hx hb dL_law_350 rfl (lv_at hl 0 rfl) ?_
  refine lv_iload_n hx hb dL_law_351 rfl (lv_at hl 3 rfl) ?_
  refine lv_iconst (v := 2) hx hb dL_law_352 (by decide) ?_
  refine lv_iadd hx hb dL_law_353 ?_
  refine va_sld hx hb hX hbl hbA hS1 h_2 dL_law_354 ?_
  refine va_calli (va_runV (As := [.int (xs (x3 + 1).toNatClampNeg), .int (xs (x3 + 2).toNatClampNeg)]) (rest := [.int r6]) ⟨hx, hb, hml, hown, hts⟩ (kX7_set l D cI adm w (xs (x3 + 1).toNatClampNeg) (xs (x3 + 2).toNatClampNeg) hdm hR.R7) (cwV 2 hts gL_law_X7_set rfl rfl rfl mdX7_set ⟨Nat.le_of_ble_eq_true rfl, Nat.le_of_ble_eq_true rfl⟩) (x7_preL (hK.sub [0] rfl) hP71) rfl rfl hl.1 rfl (lv_room (Nat.le_of_ble_eq_true rfl)) dL_law_355 ⟨hcs.1, hcs.2⟩) hS1 (fun q _ h => hA7 q h) (fun q h => hA7 q h) (fun r7 w1 t2 H2 locs2 ht2 hvm2 hp7 hB7 hz2 hfr2 hS2 => ?_)
  rw [ht2] at hB7
  have hO := S_set hR (xs (x3 + 1).toNatClampNeg) (xs (x3 + 2).toNatClampNeg)
  rw [← hp6.1, ← hp7.1] at hO
  have hP62 := keep6 hB hdis hfr2
  exact lv_icmp_eq (tgt := 1036) hx hb dL_law_358 (by decide) (fun _ => kk H2 locs2 V1 w1 hP62 hB7 hp6.2 hO.2 hS2) (fun hne => absurd hO.1 hne)
set_option maxHeartbeats 4000000 in
set_option maxRecDepth 100000 in
theorem law_shift (E : LAW p s m c b L xs D cI cC cQ adx adm sd aK aV) (hcs : cells ≤ 600000 ∧ slots ≤ 7302250) (hl : lv_has ls 4 [(0, .ref b), (1, .ref (adx 5 0)), (2, .ref (adm 0)), (3, .int x3)]) (h_1 : vp_in (x3 + 1) L) (h_2 : vp_in (x3 + 2) L) (h_3 : vp_in (x3 + 3) L) (hS : va_S (fun q : Nat => s.heap.size ≤ q) s.heap H locs) (hP6 : va_P D vwCl (MWL cI cC cQ adx V) H) (hP7 : va_P D vwCl (RM cI adm w) H) (hI : R6I V) (hR : REL V w) (kk : ∀ (H : Heap) (locs : List Loc) (V : Nat → Nat → Nat → Int32) (w : Nat → Nat → Int32), va_P D vwCl (MWL cI cC cQ adx V) H → va_P D vwCl (RM cI adm w) H → R6I V → REL V w → va_S (fun q : Nat => s.heap.size ≤ q) s.heap H locs → W p l e room_1 s m #[Value.ref b] below meth c H locs cells slots Q (F0 m 1036 ls [])) : W p l e room_1 s m #[Value.ref b] below meth c H locs cells slots Q (F0 m 363 ls []) := by
  obtain ⟨hx, hb, hml, hown, hts, hX, hbl, hK, hN, hSE, hST, hd, hdm, hA6, hA7, hdis⟩ := E
  have hbA : ¬ (fun q : Nat => s.heap.size ≤ q) b := Nat.not_le.mpr hbl
  refine lv_aload_n hx hb dL_law_363 rfl (lv_at hl 1 rfl) ?_
  refine lv_aload_n hx hb dL_law_364 rfl (lv_at hl 0 rfl) ?_
  refine lv_iload_n hx hb dL_law_365 rfl (lv_at hl 3 rfl) ?_
  refine lv_iconst (v := 1) hx hb dL_law_366 (by decide) ?_
  refine lv_iadd hx hb dL_law_367 ?_
  refine va_sld hx hb hX hbl hbA hS h_1 dL_law_368 ?_
  refine lv_aload_n hx hb dL_law_369 rfl (lv_at hl 0 rfl) ?_
  refine lv_iload_n hx hb dL_law_370 rfl (lv_at hl 3 rfl) ?_
  refine lv_iconst (v := 2) hx hb dL_law_371 (by decide) ?_
  refine lv_iadd hx hb dL_law_372 ?_
  refine va_sld hx hb hX hbl hbA hS h_2 dL_law_373 ?_
  refine lv_aload_n hx hb dL_law_374 rfl (lv_at hl 0 rfl) ?_
  refine lv_iload_n hx hb dL_law_375 rfl (lv_at hl 3 rfl) ?_
  refine lv_iconst (v := 3) hx hb dL_law_376 (by decide) ?_
  refine lv_iadd hx hb dL_law_377 ?_
  refine va_sld hx hb hX hbl hbA hS h_3 dL_law_378 ?_
  refine va_calli (va_runV (As := [.int (xs (x3 + 1).toNatClampNeg), .int (xs (x3 + 2).toNatClampNeg), .int (xs (x3 + 3).toNatClampNeg)]) (rest := []) ⟨hx, hb, hml, hown, hts⟩ (kX6_shift l D cI cC cQ adx sd aK aV V (xs (x3 + 1).toNatClampNeg) (xs (x3 + 2).toNatClampNeg) (xs (x3 + 3).toNatClampNeg) hd hI) (cwV 3 hts gL_law_X6_shift rfl rfl rfl mdX6_shift ⟨Nat.le_of_ble_eq_true rfl, Nat.le_of_ble_eq_true rfl⟩) (x6_preL hK hP6 hN hSE hST hA6 hS) rfl rfl hl.1 rfl (lv_room (Nat.le_of_ble_eq_true rfl)) dL_law_379 ⟨hcs.1, hcs.2⟩) hS (fun q _ h => hA6 q h) (fun q h => hA6 q h) (fun r6 V1 t H1 locs1 ht hvm hp6 hB hz hfr hS1 => ?_)
  rw [ht] at hB
  have hP71 := keep7 hP7 hdis hfr
  refine lv_aload_n hx hb dL_law_382 rfl (lv_at hl 2 rfl) ?_
  refine lv_aload_n hx hb dL_law_383 rfl (lv_at hl 0 rfl) ?_
  refine lv_iload_n hx hb dL_law_384 rfl (lv_at hl 3 rfl) ?_
  refine lv_iconst (v := 1) hx hb dL_law_385 (by decide) ?_
  refine lv_iadd hx hb dL_law_386 ?_
  refine va_sld hx hb hX hbl hbA hS1 h_1 dL_law_387 ?_
  refine lv_aload_n hx hb dL_law_388 rfl (lv_at hl 0 rfl) ?_
  refine lv_iload_n hx hb dL_law_389 rfl (lv_at hl 3 rfl) ?_
  refine lv_iconst (v := 2) hx hb dL_law_390 (by decide) ?_
  refine lv_iadd hx hb dL_law_391 ?_
  refine va_sld hx hb hX hbl hbA hS1 h_2 dL_law_392 ?_
  refine lv_aload_n hx hb dL_law_393 rfl (lv_at hl 0 rfl) ?_
  refine lv_iload_n hx hb dL_law_394 rfl (lv_at hl 3 rfl) ?_
  refine lv_iconst (v := 3) hx hb dL_law_395 (by decide) ?_
  refine lv_iadd hx hb dL_law_396 ?_
  refine va_sld hx hb hX hbl hbA hS1 h_3 dL_law_397 ?_
  refine va_calli (va_runV (As := [.int (xs (x3 + 1).toNatClampNeg), .int (xs (x3 + 2).toNatClampNeg), .int (xs (x3 + 3).toNatClampNeg)]) (rest := [.int r6]) ⟨hx, hb, hml, hown, hts⟩ (kX7_shift l D cI adm w (xs (x3 + 1).toNatClampNeg) (xs (x3 + 2).toNatClampNeg) (xs (x3 + 3).toNatClampNeg) hdm hR.R7) (cwV 3 hts gL_law_X7_shift rfl rfl rfl mdX7_shift ⟨Nat.le_of_ble_eq_true rfl, Nat.le_of_ble_eq_true rfl⟩) (x7_preL (hK.sub [0] rfl) hP71) rfl rfl hl.1 rfl (lv_room (Nat.le_of_ble_eq_true rfl)) dL_law_398 ⟨hcs.1, hcs.2⟩) hS1 (fun q _ h => hA7 q h) (fun q h => hA7 q h) (fun r7 w1 t2 H2 locs2 ht2 hvm2 hp7 hB7 hz2 hfr2 hS2 => ?_)
  rw [ht2] at hB7
  have hO := S_shift hR (xs (x3 + 1).toNatClampNeg) (xs (x3 + 2).toNatClampNeg) (xs (x3 + 3).toNatClampNeg)
  rw [← hp6.1, ← hp7] at hO
  have hP62 := keep6 hB hdis hfr2
  exact lv_icmp_eq (tgt := 1036) hx hb dL_law_401 (by decide) (fun _ => kk H2 locs2 V1 w1 hP62 hB7 hp6.2 hO.2 hS2) (fun hne => absurd hO.1 hne)
end LAWO0
