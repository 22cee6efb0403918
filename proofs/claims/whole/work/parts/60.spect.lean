/-! texts: what the library's own methods need -/
def vp_Sv0 : Array Value → State → Outcome → State → Prop := fun _ st o t => o = .returned none ∧ t.heap = st.heap
def vp_Sr (post : Nat → Prop) : Array Value → State → Outcome → State → Prop := fun _ st o t => ∃ r : Nat, o = .returned (some (.ref r)) ∧ post r ∧ t.heap = st.heap
def tl (i : Nat) : Int32 := Int32.ofNat (lenS.getD i 0)
def tb (i j : Nat) : Int32 := (bytS.getD i []).getD j 0
theorem len7 {i : Nat} (h : i < 9) : lenS.getD i 0 ≤ 7 := by
  revert i; decide
theorem tl_n {i : Nat} (h : i < 9) : (tl i).toInt = (lenS.getD i 0 : Nat) := by
  revert i; decide
theorem u16_rng (x : Int32) : 0 ≤ ((x.toUInt32 % 65536).toInt32).toInt ∧ ((x.toUInt32 % 65536).toInt32).toInt < 65536 := nar_char x
theorem i_min2 (x y : Int32) : (if y < x then y else x).toInt ≤ x.toInt ∧ (if y < x then y else x).toInt ≤ y.toInt := by
  split
  · rename_i h; have := i_lt h; omega
  · rename_i h; have := i_nlt h; omega
theorem i_max2 (x y : Int32) : x.toInt ≤ (if x < y then y else x).toInt ∧ y.toInt ≤ (if x < y then y else x).toInt := by
  split
  · rename_i h; have := i_lt h; omega
  · rename_i h; have := i_nlt h; omega
section TX
variable {p : Program} {l : Launch} {e : Env} {R : Room} {s : State} {m : MethodId} {args : Array Value} {below : List Frame} {meth : Method} {c : Code} {H : Heap} {locs : List Loc} {cells slots : Nat} {Q : State → Prop} {pc : Nat} {ls : Array Slot} {rest : List Value}
theorem vp_callSv0 {a : Array Value} {st0 : List Value} (hr : CallRun p l e R s m args below meth c H locs cells slots 0 0 (F0 m pc ls st0) rest (vp_Sv0 a) (fun _ => False))
    (kk : W p l e R s m args below meth c H locs cells slots Q (F0 m (pc + 3) ls rest)) : W p l e R s m args below meth c H locs cells slots Q (F0 m pc ls st0) := by
  intro T hT X
  obtain ⟨v, st₀, t, T', L, h0, X', hL, e1, ⟨hv, hh⟩, st⟩ := hr T hT X
  cases hv
  obtain ⟨t2, a1, b1⟩ := kk T' (by rw [e1, hh, h0]) (Stand.forget X' (fun q h => (hL q h).elim))
  exact ⟨t2, st t2 a1, b1⟩
theorem vp_callSr {post : Nat → Prop} {a : Array Value} {st0 : List Value} (hr : CallRun p l e R s m args below meth c H locs cells slots 0 0 (F0 m pc ls st0) rest (vp_Sr post a) (fun _ => False))
    (kk : ∀ r : Nat, post r → W p l e R s m args below meth c H locs cells slots Q (F0 m (pc + 3) ls (.ref r :: rest))) : W p l e R s m args below meth c H locs cells slots Q (F0 m pc ls st0) := by
  intro T hT X
  obtain ⟨v, st₀, t, T', L, h0, X', hL, e1, ⟨r, hv, hp, hh⟩, st⟩ := hr T hT X
  cases hv
  obtain ⟨t2, a1, b1⟩ := kk r hp T' (by rw [e1, hh, h0]) (Stand.forget X' (fun q h => (hL q h).elim))
  exact ⟨t2, st t2 a1, b1⟩
end TX
theorem xt_pre {s : State} {H : Heap} {locs : List Loc} {aK aV : Nat → Nat} {A : Nat → Prop} {i : Nat} {As : List Value} (hST : STR aK aV A s s.heap) (hi : i < 9) (hS : va_S A s.heap H locs) : PreV s H RJ0 (aK i) (va_Pc (.ref (aK i) :: As) (fun U => STR aK aV A U U.heap)) As :=
  ⟨fun a U g mk q => by obtain ⟨q0, q1⟩ := q; exact ⟨q0, STR.same (u := U) (U := U.calling g mk a) rfl q1⟩, vk_recv hST.1 hi hS, fun U hU hW => ⟨rfl, by show STR aK aV A U U.heap; rw [hU]; exact STR.warm hW (hST.kept hS.2.1)⟩⟩
theorem t_pre {s : State} {H : Heap} {locs : List Loc} {aK aV : Nat → Nat} {A : Nat → Prop} {As : List Value} (hST : STR aK aV A s s.heap) (hS : va_S A s.heap H locs) : PreS s H (va_Pc As (fun U => STR aK aV A U U.heap)) As :=
  ⟨fun a U g mk q => by obtain ⟨q0, q1⟩ := q; exact ⟨q0, STR.same (u := U) (U := U.calling g mk a) rfl q1⟩, fun U hU hW => ⟨rfl, by show STR aK aV A U U.heap; rw [hU]; exact STR.warm hW (hST.kept hS.2.1)⟩⟩
theorem tx_pre {s : State} {H : Heap} {locs : List Loc} {aK aV : Nat → Nat} {A : Nat → Prop} {As : List Value} (hN : NW s) (hST : STR aK aV A s s.heap) (hS : va_S A s.heap H locs) : PreS s H (va_Pc As (fun U => NW U ∧ STR aK aV A U U.heap)) As :=
  ⟨fun a U g mk q => by obtain ⟨q0, qN, q1⟩ := q; exact ⟨q0, NW.same (u := U) (U := U.calling g mk a) rfl qN, STR.same (u := U) (U := U.calling g mk a) rfl q1⟩, fun U hU hW => ⟨rfl, NW.warm hW hN, by rw [hU]; exact STR.warm hW (hST.kept hS.2.1)⟩⟩
theorem x1_preS {s : State} {H : Heap} {D : va_G} {cI cC cQ : ClassId} {ad : Nat → Nat} {aK aV : Nat → Nat} {w : Nat → Nat → Int32} {As : List Value} (hK : va_K D vwCl [(cI, .int), (cC, .char), (cQ, .object "LoadedForTheLane$Way")] s) (hP : va_P D vwCl (LW cC ad w) H) (hN : NW s) (hST : STR aK aV (LWA ad) s H) : PreV s H RX1 (ad 0) (va_Pc (.ref (ad 0) :: As) (fun U => va_P D vwCl (LW cC ad w) U.heap ∧ va_K D vwCl [(cI, .int), (cC, .char), (cQ, .object "LoadedForTheLane$Way")] U ∧ NW U ∧ STR aK aV (LWA ad) U U.heap)) As :=
  ⟨fun a U g mk q => by obtain ⟨q0, qP, qK, qN, qT⟩ := q; exact ⟨q0, qP, va_K.moved (u := U) (U := U.calling g mk a) (Vm.Alike.refl U.vm) qK, NW.same (u := U) (U := U.calling g mk a) rfl qN, STR.same (u := U) (U := U.calling g mk a) rfl qT⟩, va_recv hK hP (ci := 0) (q0 := 0) rfl rfl, fun U hU hW => ⟨rfl, by rw [hU]; exact hP, va_K.moved hW.alike hK, NW.warm hW hN, by rw [hU]; exact STR.warm hW hST⟩⟩
theorem q_m2147483648 : ((-2147483648) : Int32).toInt = -2147483648 := by decide +kernel
theorem q_63 : (63 : Int32).toInt = 63 := by decide +kernel
theorem q_76 : (76 : Int32).toInt = 76 := by decide +kernel
theorem q_80 : (80 : Int32).toInt = 80 := by decide +kernel
theorem q_120 : (120 : Int32).toInt = 120 := by decide +kernel
theorem mdsJ0_charAt_5068e : yJ0_charAt_5068e.cls ≠ "java/lang/invoke/MethodHandle" ∧ yJ0_charAt_5068e.cls ≠ "java/lang/invoke/VarHandle" ∧ (parseMethodDescriptor yJ0_charAt_5068e.desc).map (fun d => d.parameters.length) = some 1 := by decide +kernel
theorem mdJ0_charAt_5068e : yJ0_charAt_5068e.cls = RJ0 ∧ yJ0_charAt_5068e.cls ≠ "java/lang/invoke/MethodHandle" ∧ yJ0_charAt_5068e.cls ≠ "java/lang/invoke/VarHandle" ∧ (parseMethodDescriptor yJ0_charAt_5068e.desc).map (fun d => d.parameters.length) = some 1 := ⟨rfl, mdsJ0_charAt_5068e⟩
theorem mdsJ0_coder_7d493 : yJ0_coder_7d493.cls ≠ "java/lang/invoke/MethodHandle" ∧ yJ0_coder_7d493.cls ≠ "java/lang/invoke/VarHandle" ∧ (parseMethodDescriptor yJ0_coder_7d493.desc).map (fun d => d.parameters.length) = some 0 := by decide +kernel
theorem mdJ0_coder_7d493 : yJ0_coder_7d493.cls = RJ0 ∧ yJ0_coder_7d493.cls ≠ "java/lang/invoke/MethodHandle" ∧ yJ0_coder_7d493.cls ≠ "java/lang/invoke/VarHandle" ∧ (parseMethodDescriptor yJ0_coder_7d493.desc).map (fun d => d.parameters.length) = some 0 := ⟨rfl, mdsJ0_coder_7d493⟩
theorem mdsJ0_indexOf_0f7a4 : yJ0_indexOf_0f7a4.cls ≠ "java/lang/invoke/MethodHandle" ∧ yJ0_indexOf_0f7a4.cls ≠ "java/lang/invoke/VarHandle" ∧ (parseMethodDescriptor yJ0_indexOf_0f7a4.desc).map (fun d => d.parameters.length) = some 1 := by decide +kernel
theorem mdJ0_indexOf_0f7a4 : yJ0_indexOf_0f7a4.cls = RJ0 ∧ yJ0_indexOf_0f7a4.cls ≠ "java/lang/invoke/MethodHandle" ∧ yJ0_indexOf_0f7a4.cls ≠ "java/lang/invoke/VarHandle" ∧ (parseMethodDescriptor yJ0_indexOf_0f7a4.desc).map (fun d => d.parameters.length) = some 1 := ⟨rfl, mdsJ0_indexOf_0f7a4⟩
theorem mdsJ0_indexOf_7cf53 : yJ0_indexOf_7cf53.cls ≠ "java/lang/invoke/MethodHandle" ∧ yJ0_indexOf_7cf53.cls ≠ "java/lang/invoke/VarHandle" ∧ (parseMethodDescriptor yJ0_indexOf_7cf53.desc).map (fun d => d.parameters.length) = some 2 := by decide +kernel
theorem mdJ0_indexOf_7cf53 : yJ0_indexOf_7cf53.cls = RJ0 ∧ yJ0_indexOf_7cf53.cls ≠ "java/lang/invoke/MethodHandle" ∧ yJ0_indexOf_7cf53.cls ≠ "java/lang/invoke/VarHandle" ∧ (parseMethodDescriptor yJ0_indexOf_7cf53.desc).map (fun d => d.parameters.length) = some 2 := ⟨rfl, mdsJ0_indexOf_7cf53⟩
theorem mdsJ0_isEmpty_aae02 : yJ0_isEmpty_aae02.cls ≠ "java/lang/invoke/MethodHandle" ∧ yJ0_isEmpty_aae02.cls ≠ "java/lang/invoke/VarHandle" ∧ (parseMethodDescriptor yJ0_isEmpty_aae02.desc).map (fun d => d.parameters.length) = some 0 := by decide +kernel
theorem mdJ0_isEmpty_aae02 : yJ0_isEmpty_aae02.cls = RJ0 ∧ yJ0_isEmpty_aae02.cls ≠ "java/lang/invoke/MethodHandle" ∧ yJ0_isEmpty_aae02.cls ≠ "java/lang/invoke/VarHandle" ∧ (parseMethodDescriptor yJ0_isEmpty_aae02.desc).map (fun d => d.parameters.length) = some 0 := ⟨rfl, mdsJ0_isEmpty_aae02⟩
theorem mdsJ0_isLatin1_aae02 : yJ0_isLatin1_aae02.cls ≠ "java/lang/invoke/MethodHandle" ∧ yJ0_isLatin1_aae02.cls ≠ "java/lang/invoke/VarHandle" ∧ (parseMethodDescriptor yJ0_isLatin1_aae02.desc).map (fun d => d.parameters.length) = some 0 := by decide +kernel
theorem mdJ0_isLatin1_aae02 : yJ0_isLatin1_aae02.cls = RJ0 ∧ yJ0_isLatin1_aae02.cls ≠ "java/lang/invoke/MethodHandle" ∧ yJ0_isLatin1_aae02.cls ≠ "java/lang/invoke/VarHandle" ∧ (parseMethodDescriptor yJ0_isLatin1_aae02.desc).map (fun d => d.parameters.length) = some 0 := ⟨rfl, mdsJ0_isLatin1_aae02⟩
theorem mdsJ0_length_8abf5 : yJ0_length_8abf5.cls ≠ "java/lang/invoke/MethodHandle" ∧ yJ0_length_8abf5.cls ≠ "java/lang/invoke/VarHandle" ∧ (parseMethodDescriptor yJ0_length_8abf5.desc).map (fun d => d.parameters.length) = some 0 := by decide +kernel
theorem mdJ0_length_8abf5 : yJ0_length_8abf5.cls = RJ0 ∧ yJ0_length_8abf5.cls ≠ "java/lang/invoke/MethodHandle" ∧ yJ0_length_8abf5.cls ≠ "java/lang/invoke/VarHandle" ∧ (parseMethodDescriptor yJ0_length_8abf5.desc).map (fun d => d.parameters.length) = some 0 := ⟨rfl, mdsJ0_length_8abf5⟩
theorem mdsJ0_checkIndex_df160 : yJ0_checkIndex_df160.cls ≠ "java/lang/invoke/MethodHandle" ∧ yJ0_checkIndex_df160.cls ≠ "java/lang/invoke/VarHandle" ∧ (parseMethodDescriptor yJ0_checkIndex_df160.desc).map (fun d => d.parameters.length) = some 2 := by decide +kernel
theorem mdJ0_checkIndex_df160 : yJ0_checkIndex_df160.cls = RJ0 ∧ yJ0_checkIndex_df160.cls ≠ "java/lang/invoke/MethodHandle" ∧ yJ0_checkIndex_df160.cls ≠ "java/lang/invoke/VarHandle" ∧ (parseMethodDescriptor yJ0_checkIndex_df160.desc).map (fun d => d.parameters.length) = some 2 := ⟨rfl, mdsJ0_checkIndex_df160⟩
theorem mdsJ1_canEncode_9a6ad : yJ1_canEncode_9a6ad.cls ≠ "java/lang/invoke/MethodHandle" ∧ yJ1_canEncode_9a6ad.cls ≠ "java/lang/invoke/VarHandle" ∧ (parseMethodDescriptor yJ1_canEncode_9a6ad.desc).map (fun d => d.parameters.length) = some 1 := by decide +kernel
theorem mdJ1_canEncode_9a6ad : yJ1_canEncode_9a6ad.cls = RJ1 ∧ yJ1_canEncode_9a6ad.cls ≠ "java/lang/invoke/MethodHandle" ∧ yJ1_canEncode_9a6ad.cls ≠ "java/lang/invoke/VarHandle" ∧ (parseMethodDescriptor yJ1_canEncode_9a6ad.desc).map (fun d => d.parameters.length) = some 1 := ⟨rfl, mdsJ1_canEncode_9a6ad⟩
theorem mdsJ1_charAt_3b067 : yJ1_charAt_3b067.cls ≠ "java/lang/invoke/MethodHandle" ∧ yJ1_charAt_3b067.cls ≠ "java/lang/invoke/VarHandle" ∧ (parseMethodDescriptor yJ1_charAt_3b067.desc).map (fun d => d.parameters.length) = some 2 := by decide +kernel
theorem mdJ1_charAt_3b067 : yJ1_charAt_3b067.cls = RJ1 ∧ yJ1_charAt_3b067.cls ≠ "java/lang/invoke/MethodHandle" ∧ yJ1_charAt_3b067.cls ≠ "java/lang/invoke/VarHandle" ∧ (parseMethodDescriptor yJ1_charAt_3b067.desc).map (fun d => d.parameters.length) = some 2 := ⟨rfl, mdsJ1_charAt_3b067⟩
theorem mdsJ1_indexOfChar_4cfef : yJ1_indexOfChar_4cfef.cls ≠ "java/lang/invoke/MethodHandle" ∧ yJ1_indexOfChar_4cfef.cls ≠ "java/lang/invoke/VarHandle" ∧ (parseMethodDescriptor yJ1_indexOfChar_4cfef.desc).map (fun d => d.parameters.length) = some 4 := by decide +kernel
theorem mdJ1_indexOfChar_4cfef : yJ1_indexOfChar_4cfef.cls = RJ1 ∧ yJ1_indexOfChar_4cfef.cls ≠ "java/lang/invoke/MethodHandle" ∧ yJ1_indexOfChar_4cfef.cls ≠ "java/lang/invoke/VarHandle" ∧ (parseMethodDescriptor yJ1_indexOfChar_4cfef.desc).map (fun d => d.parameters.length) = some 4 := ⟨rfl, mdsJ1_indexOfChar_4cfef⟩
theorem mdsJ1_indexOf_4cfef : yJ1_indexOf_4cfef.cls ≠ "java/lang/invoke/MethodHandle" ∧ yJ1_indexOf_4cfef.cls ≠ "java/lang/invoke/VarHandle" ∧ (parseMethodDescriptor yJ1_indexOf_4cfef.desc).map (fun d => d.parameters.length) = some 4 := by decide +kernel
theorem mdJ1_indexOf_4cfef : yJ1_indexOf_4cfef.cls = RJ1 ∧ yJ1_indexOf_4cfef.cls ≠ "java/lang/invoke/MethodHandle" ∧ yJ1_indexOf_4cfef.cls ≠ "java/lang/invoke/VarHandle" ∧ (parseMethodDescriptor yJ1_indexOf_4cfef.desc).map (fun d => d.parameters.length) = some 4 := ⟨rfl, mdsJ1_indexOf_4cfef⟩
theorem mdsJ3_checkIndex_8e157 : yJ3_checkIndex_8e157.cls ≠ "java/lang/invoke/MethodHandle" ∧ yJ3_checkIndex_8e157.cls ≠ "java/lang/invoke/VarHandle" ∧ (parseMethodDescriptor yJ3_checkIndex_8e157.desc).map (fun d => d.parameters.length) = some 3 := by decide +kernel
theorem mdJ3_checkIndex_8e157 : yJ3_checkIndex_8e157.cls = RJ3 ∧ yJ3_checkIndex_8e157.cls ≠ "java/lang/invoke/MethodHandle" ∧ yJ3_checkIndex_8e157.cls ≠ "java/lang/invoke/VarHandle" ∧ (parseMethodDescriptor yJ3_checkIndex_8e157.desc).map (fun d => d.parameters.length) = some 3 := ⟨rfl, mdsJ3_checkIndex_8e157⟩
def sJ0_coder_7d493 (i : Nat) : Int32 :=
  0
def sJ0_isLatin1_aae02 (i : Nat) : Int32 :=
  1
def sJ0_length_8abf5 (i : Nat) : Int32 :=
  (tl i) >>> (0 &&& 31)
theorem rJ0_length {i : Nat} (h : i < 9) : (sJ0_length_8abf5 i).toInt = (lenS.getD i 0 : Nat) := by
  revert i; decide
def sJ0_isEmpty_aae02 (i : Nat) : Int32 :=
  (if (tl i) = 0 then
  1
  else
  0)
def sJ3_checkIndex_8e157 (t9 : Nat) (a1 : Int32) (a2 : Int32) : Int32 :=
  (if a1 < 0 then
  0
  else
  (if a1 < a2 then
  a1
  else
  0))
def sJ3_checkIndex_8e157N (a1 : Int32) (a2 : Int32) : Int32 :=
  (if a1 < 0 then
  0
  else
  (if a1 < a2 then
  a1
  else
  0))
def sJ0_checkIndex_df160 (a1 : Int32) (a2 : Int32) : Unit :=
  ()
def sJ1_charAt_3b067 (i : Nat) (a2 : Int32) : Int32 :=
  (((tb i (a2.toNatClampNeg)) &&& 255).toUInt32 % 65536).toInt32
def sJ0_charAt_5068e (i : Nat) (a1 : Int32) : Int32 :=
  (sJ1_charAt_3b067 i a1)
def sJ1_canEncode_9a6ad (a1 : Int32) : Int32 :=
  (if a1 < 0 then
  0
  else
  (if 255 < a1 then
  0
  else
  1))
def sJ1_indexOfChar_4cfef_7 (i : Nat) (a2 : Int32) (a4 : Int32) : Nat → Int32 → Int32
  | 0, _ => 0
  | n_7 + 1, x5_7 =>
  (if a4 ≤ x5_7 then
  (-1)
  else
  (if (tb i (x5_7.toNatClampNeg)) = a2.toInt8.toInt32 then
  x5_7
  else
  (sJ1_indexOfChar_4cfef_7 i a2 a4 n_7) (x5_7 + 1)))
def sJ1_indexOfChar_4cfef (i : Nat) (a2 : Int32) (a3 : Int32) (a4 : Int32) : Int32 :=
  sJ1_indexOfChar_4cfef_7 i a2 a4 8 a3
def sJ1_indexOf_4cfef (i : Nat) (a2 : Int32) (a3 : Int32) (a4 : Int32) : Int32 :=
  (if (sJ1_canEncode_9a6ad a2) = 0 then
  (-1)
  else
  (if (if a3 < 0 then 0 else a3) < (if tl i < a4 then tl i else a4) then
  (sJ1_indexOfChar_4cfef i a2 (if a3 < 0 then 0 else a3) (if tl i < a4 then tl i else a4))
  else
  (-1)))
def sJ0_indexOf_7cf53 (i : Nat) (a1 : Int32) (a2 : Int32) : Int32 :=
  (sJ1_indexOf_4cfef i a1 a2 (sJ0_length_8abf5 i))
def sJ0_indexOf_0f7a4 (i : Nat) (a1 : Int32) : Int32 :=
  (sJ0_indexOf_7cf53 i a1 0)
def sX0_of (a1 : Int32) : Int32 :=
  (sJ0_indexOf_0f7a4 0 a1)
def sX2_of (a1 : Int32) : Int32 :=
  (sJ0_indexOf_0f7a4 1 a1)
def sX1_fits (a1 : Int32) (a2 : Int32) : Int32 :=
  (if a1 = 43 then
  (if a2 = 43 then
  1
  else
  (if a2 = 45 then
  1
  else
  0))
  else
  (if a1 = 48 then
  (sX1_isDigit a2)
  else
  (if a1 = 63 then
  (sX1_isDigit a2)
  else
  (if a1 = 76 then
  (if (sX0_of a2) < 0 then
  0
  else
  1)
  else
  (if a1 = 80 then
  (if (sX2_of a2) < 0 then
  0
  else
  1)
  else
  (if a2 = a1 then
  1
  else
  0))))))
def sX1_formBehind (a1 : Int32) : Nat :=
  (if a1 = 102 then
  7
  else
  (if a1 = 107 then
  6
  else
  (if a1 = 114 then
  5
  else
  (if a1 = 117 then
  8
  else
  (if a1 = 119 then
  4
  else
  (if a1 = 121 then
  3
  else
  2))))))
def sX1_stepBehind_2 (i : Nat) (a3 : Int32) : Nat → Int32 → Int32
  | 0, _ => 0
  | n_2 + 1, x3_2 =>
  (if (sJ0_length_8abf5 i) ≤ x3_2 then
  (-1)
  else
  (if (sX1_fits (sJ0_charAt_5068e i x3_2) a3) = 0 then
  (if (sJ0_charAt_5068e i x3_2) = 63 then
  (sX1_stepBehind_2 i a3 n_2) (x3_2 + 1)
  else
  (-1))
  else
  x3_2 + 1))
def sX1_stepBehind (i : Nat) (a2 : Int32) (a3 : Int32) : Int32 :=
  sX1_stepBehind_2 i a3 9 a2
def sX1_firstOutOfForm_16 (w : Nat → Nat → Int32) : Nat → Nat → Int32 → Int32 → Int32
  | 0, _, _, _ => 0
  | n_16 + 1, x1_16, x2_16, x3_16 =>
  (if (w 1 0) ≤ x3_16 then
  (if (sJ0_length_8abf5 x1_16) ≤ x2_16 then
  (-1)
  else
  w 1 0)
  else
  (if x2_16 < (sJ0_length_8abf5 x1_16) then
  (if 0 ≤ (sX1_stepBehind x1_16 x2_16 (sX1_at w x3_16)) then
  (sX1_firstOutOfForm_16 w n_16) x1_16 ((sX1_stepBehind x1_16 x2_16 (sX1_at w x3_16))) (x3_16 + 1)
  else
  x3_16)
  else
  (if (sJ0_isEmpty_aae02 (sX1_formBehind (sX1_at w x3_16))) = 0 then
  (sX1_firstOutOfForm_16 w n_16) (sX1_formBehind (sX1_at w x3_16)) 0 (x3_16 + 1)
  else
  x3_16)))
def sX1_firstOutOfForm (w : Nat → Nat → Int32) : Int32 :=
  (if (w 1 0) = 0 then
  0
  else
  sX1_firstOutOfForm_16 w 97 2 0 0)
