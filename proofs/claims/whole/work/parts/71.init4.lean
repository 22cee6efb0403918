/-! the wagon's constructor: rows -/
def w40 : Nat → Nat → Int32 := st (st (st z2 7 1 4) 7 2 3) 7 3 200
def FCell (cI : ClassId) (t : Nat) (A : Nat → Prop) (H : Heap) : Prop := ∃ cell : Cell, H[t]? = some cell ∧ cell.cls = cI ∧ cell.vm.isStatics = false ∧ cell.vm ≠ .unknown ∧ cell.slots = Array.ofFn (n := 4) (fun j => Value.int (w40 7 j.val)) ∧ ¬ A t
theorem FCell.kept {cI : ClassId} {t : Nat} {A : Nat → Prop} {H H1 : Heap} (h : FCell cI t A H) (hq : ∀ a : Nat, a < H.size → ¬ A a → H1[a]? = H[a]?) : FCell cI t A H1 := by
  obtain ⟨cell, f1, f2, f3, f4, f5, f6⟩ := h
  exact ⟨cell, (hq t (Array.getElem?_eq_some_iff.mp f1).1 f6).trans f1, f2, f3, f4, f5, f6⟩
theorem FCell.narrow {cI : ClassId} {t : Nat} {A B : Nat → Prop} {H : Heap} (h : FCell cI t A H) (hAB : ∀ q, B q → A q) : FCell cI t B H := by
  obtain ⟨cell, f1, f2, f3, f4, f5, f6⟩ := h
  exact ⟨cell, f1, f2, f3, f4, f5, fun z => f6 (hAB _ z)⟩
def FE (cI : ClassId) (sf : Nat) (A : Nat → Prop) (U : State) (H : Heap) : Prop := va_Z "LoadedForTheLane" "FIRST_SETTING" "[I" (.ref sf) A U H ∧ FCell cI sf A H ∧ va_Nw (.castable "[I" "java/lang/Cloneable") U ∧ va_AO RX5 U
theorem FE.same {cI : ClassId} {sf : Nat} {A : Nat → Prop} {u U : State} {H : Heap} (hv : U.vm = u.vm) (h : FE cI sf A u H) : FE cI sf A U H := ⟨va_Z.moved (hv ▸ Vm.Alike.refl _) h.1, h.2.1, va_Nw.same rfl hv.symm h.2.2.1, va_AO.moved (hv ▸ Vm.Alike.refl _) h.2.2.2⟩
theorem FE.warm {cI : ClassId} {sf : Nat} {A : Nat → Prop} {s U : State} {H : Heap} (hW : s.WarmedH U.vm) (h : FE cI sf A s H) : FE cI sf A U H := ⟨va_Z.moved hW.alike h.1, h.2.1, va_Nw.warmC hW h.2.2.1, va_AO.moved hW.alike h.2.2.2⟩
theorem FE.kept {cI : ClassId} {sf : Nat} {A : Nat → Prop} {U : State} {H H1 : Heap} (h : FE cI sf A U H) (hq : ∀ a : Nat, a < H.size → ¬ A a → H1[a]? = H[a]?) : FE cI sf A U H1 := ⟨h.1.kept hq, h.2.1.kept hq, h.2.2⟩
theorem FE.narrow {cI : ClassId} {sf : Nat} {A B : Nat → Prop} {U : State} {H : Heap} (h : FE cI sf A U H) (hAB : ∀ q, B q → A q) : FE cI sf B U H := ⟨h.1.narrow hAB, h.2.1.narrow hAB, h.2.2⟩
theorem va_D_ext {A : Nat → Prop} {ws ws' : va_W} (h : va_D A ws) (e : ws.map (·.1) = ws'.map (·.1)) : va_D A ws' := by
  have key : ∀ (k : Nat) (q : Nat × va_E), ws'[k]? = some q → ∃ q', ws[k]? = some q' ∧ q'.1 = q.1 := by
    intro k q hk
    have h1 : (ws'.map (·.1))[k]? = some q.1 := by rw [List.getElem?_map, hk]; rfl
    rw [← e, List.getElem?_map] at h1
    cases hc : ws[k]? with
    | none => rw [hc] at h1; cases h1
    | some q' => rw [hc] at h1; exact ⟨q', rfl, Option.some.inj h1⟩
  refine ⟨fun i j p q hi hj hpq => ?_, fun k q hk => ?_⟩
  · obtain ⟨p', h1, h2⟩ := key i p hi
    obtain ⟨q', h3, h4⟩ := key j q hj
    exact h.1 i j p' q' h1 h3 (by rw [h2, h4]; exact hpq)
  · obtain ⟨q', h1, h2⟩ := key k q hk
    rw [← h2]; exact h.2 k q' h1
theorem ways_ext {D : va_G} {cl : List vw_C} {H : Heap} {a : Nat} {cQ : ClassId} {f g : Nat → Option Nat} (h : va_P D cl [(a, .inl (cQ, 2, .inr (.inr (.inr (.inr f)))))] H) (h0 : f 0 = g 0) (h1 : f 1 = g 1) : va_P D cl [(a, .inl (cQ, 2, .inr (.inr (.inr (.inr g)))))] H := by
  have e : vp_cell cQ (2, .inr (.inr (.inr (.inr f)))) = vp_cell cQ (2, .inr (.inr (.inr (.inr g)))) := by
    show arrV cQ 2 (fun j => va_rf (f j)) = arrV cQ 2 (fun j => va_rf (g j))
    unfold arrV
    congr 1
    apply Array.ext
    · simp
    · intro i hi _
      have : i < 2 := by simpa using hi
      simp only [Array.getElem_ofFn]
      rcases (show i = 0 ∨ i = 1 by omega) with rfl | rfl
      · rw [h0]
      · rw [h1]
  intro k q hk
  have hz : k < 1 := (List.getElem?_eq_some_iff.mp hk).1
  have e0 : k = 0 := by omega
  subst e0
  cases hk
  have := h 0 _ rfl
  exact this.trans (congrArg some e)
section IN4
variable {p : Program} {l : Launch} {e : Env} {R : Room} {s : State} {m : MethodId} {args : Array Value} {below : List Frame} {meth : Method} {c : Code} {H : Heap} {locs : List Loc} {cells slots : Nat} {Q : State → Prop} {pc : Nat} {ls : Array Slot} {rest : List Value}
variable {cc : ByteArray} {D : va_G} {cl : List vw_C} {A : Nat → Prop} {a : Nat} {tys : List (ClassId × FieldType)} {ws : va_W} {H0 : Heap} {cI cQ : ClassId}
theorem n_arr_q (hx : p.tables.exec = Jvm.exec) (hb : c.code = cc) {own C : String} {index : Nat} (hown : s.vm.findClass own = some m.cls) (hclink : (Cond.classLink own index C).before args s = true) (hover : va_AO C s) (hK : va_K D cl tys s) {t0 : Nat} (ht : tys[t0]? = some (cQ, .object C)) (hP : va_P D cl ws H) (hD : va_D A ws) (hS : va_S A H0 H locs) (hA : ∀ q, H0.size ≤ q → A q) {n : Int32} {N' : Nat} (hn : ¬ n < 0) (hN : n.toNatClampNeg = N') (hbytes : N' * 4 ≤ 536870912) (hcells : cells + 1 ≤ R.cells) (hslots : slots + N' ≤ R.slots) (hdg : decode cc pc = .ok (.anewarray index, 3))
    (kk : ∀ (q : Nat) (H1 : Heap), va_P D cl (ws ++ [(q, .inl (cQ, N', .inr (.inr (.inr (.inr (fun _ => none))))))]) H1 → va_D A (ws ++ [(q, .inl (cQ, N', .inr (.inr (.inr (.inr (fun _ => none))))))]) → va_S A H0 H1 locs → W p l e R s m args below meth c H1 locs (cells + 1) (slots + N') Q (F0 m (pc + 3) ls (.ref q :: rest))) : W p l e R s m args below meth c H locs cells slots Q (F0 m pc ls (.int n :: rest)) := by
  refine va_newq hx hb hown hclink hover hK hP hD hS hA hn hN hbytes hcells hslots hdg (fun q cA H1 hK1 hP1 hD1 hS1 => ?_)
  have e : cQ = cA := by
    obtain ⟨_, _, _, _, _, h1⟩ := (hK1.2 tys.length (cA, .object C) (by simp)).2
    obtain ⟨_, _, _, _, _, h2⟩ := (hK.2 t0 _ ht).2
    exact Option.some.inj (h2.symm.trans h1)
  subst e
  exact kk q H1 hP1 hD1 hS1
theorem n_clone (hx : p.tables.exec = Jvm.exec) (hb : c.code = cc) (hml : c.maxLocals = ls.size) {own : String} {index : Nat} (hown : s.vm.findClass own = some m.cls) (hlink : (Cond.methodLink own index ⟨"[I", "clone", "()Ljava/lang/Object;"⟩).before args s = true) (hsame : (Cond.sameMethod "[I" "java/lang/Object" "clone" "()Ljava/lang/Object;").before args s = true)
    (hnat : (Cond.native ⟨"java/lang/Object", "clone", "()Ljava/lang/Object;"⟩).before args s = true) (hinst : (Cond.instanceMethod ⟨"java/lang/Object", "clone", "()Ljava/lang/Object;"⟩).before args s = true) (hsel : (Cond.selects "[I" ⟨"[I", "clone", "()Ljava/lang/Object;"⟩ ⟨"java/lang/Object", "clone", "()Ljava/lang/Object;"⟩).before args s = true) (hcl : va_Nw (.castable "[I" "java/lang/Cloneable") s)
    (hK : va_K D cl tys s) {t0 : Nat} (ht : tys[t0]? = some (cI, .int)) (hP : va_P D cl ws H) (hD : va_D A ws) (hS : va_S A H0 H locs) (hA : ∀ q, H0.size ≤ q → A q) (hF : FCell cI a A H0) (hframes : 1 ≤ R.frames) (hlocals : (rest.map fun v => v.category).sum + 14 ≤ R.locals) (hcells : cells + 1 ≤ R.cells) (hslots : slots + 4 ≤ R.slots) (hdg : decode cc pc = .ok (.invokevirtual index, 3))
    (kk : ∀ (q : Nat) (H1 : Heap), va_P D cl (ws ++ [(q, .inl (cI, 4, .inl (w40 7)))]) H1 → va_D A (ws ++ [(q, .inl (cI, 4, .inl (w40 7)))]) → va_S A H0 H1 locs → W p l e R s m args below meth c H1 locs (cells + 1) (slots + 4) Q (F0 m (pc + 3) ls (.ref q :: rest))) : W p l e R s m args below meth c H locs cells slots Q (F0 m pc ls (.ref a :: rest)) := by
  obtain ⟨cell, f1, f2, f3, f4, f5, f6⟩ := hF
  have hc : H[a]? = some cell := (hS.2.1 a (Array.getElem?_eq_some_iff.mp f1).1 f6).trans f1
  obtain ⟨c0, c1, g1, g2, g3⟩ := Cond.castable_spec (va_Nw.use (A := args) rfl hcl)
  have hnm := va_nm_int (hK.2 t0 _ ht).2
  cases hnm.symm.trans g1
  subst f2
  intro T hT X
  obtain ⟨-, kA, hkA, comp, hkind⟩ := State.isArrayOf_alike X.warmed.alike ((hK.2 t0 _ ht).1 0 (fun _ => .null))
  obtain ⟨-, kS, hkS, compS, hkindS⟩ := (hK.2 t0 _ ht).1 0 (fun _ => .null)
  have hsz : cell.slots.size = 4 := by rw [f5]; simp
  have hcE : ({ cls := cell.cls, slots := cell.slots } : Cell) = vp_cell cell.cls (4, .inl (w40 7)) := by rw [f5]; rfl
  obtain ⟨vm', X', st⟩ := X.cloneArray hx hown hlink hsame hnat hinst hsel (a := a) (cell := cell) (by rw [hT]; exact hc) (fun k h => by rw [h] at f3; cases f3) f4 hnm g2 g3
    (fun i v hv => by
      have hk' : T.vm.classes[cell.cls]? = some kA := hkA
      have hv2 : ∃ x : Int32, v = .int x := by
        rw [f5, Array.getElem?_ofFn] at hv
        split at hv
        · exact ⟨_, (Option.some.inj hv).symm⟩
        · cases hv
      obtain ⟨x, rfl⟩ := hv2
      simp [State.fitsSlot, State.slotType?, hk', hkind, fits])
    (g := F0 m pc ls (.ref a :: rest)) rfl (by rw [hml]) rfl (by rw [hb]; exact hdg) hframes (by show 2 * 0 + _ + 14 ≤ _; omega) hcells (by rw [hsz]; exact hslots) (hloader := Vm.clonesLoader_of_array hkS hkindS)
  rw [hcE, hsz] at X'
  rw [hcE] at st
  generalize hH1 : H.push (vp_cell cell.cls (4, .inl (w40 7))) = H1
  have z1 : H1.size = H.size + 1 := by rw [← hH1, Array.size_push]
  have e1 : H1[H.size]? = some (vp_cell cell.cls (4, .inl (w40 7))) := by rw [← hH1, Array.getElem?_push_size]
  have o1 : ∀ q : Nat, q < H.size → H1[q]? = H[q]? := fun q hq => by rw [← hH1, Array.getElem?_push, if_neg (Nat.ne_of_lt hq)]
  have hk : ∀ (k : Nat) (y : Nat × va_E), ws[k]? = some y → H1[y.1]? = H[y.1]? := fun k y hy => o1 y.1 ((hP k y hy).lt)
  obtain ⟨t, b1, b2⟩ := kk H.size H1 ((hP.kept hk).app (fun k y hy => by
      have hz : k < 1 := (List.getElem?_eq_some_iff.mp hy).1
      rw [show k = 0 by omega] at hy
      cases hy
      exact e1)) (hD.push hP rfl (hA _ hS.1)) ⟨Nat.le_trans hS.1 (by omega), fun y h1 h2 => (o1 y (Nat.lt_of_lt_of_le h1 hS.1)).trans (hS.2.1 y h1 h2), hS.2.2⟩
    ((T.setVm vm').pushCell (vp_cell cell.cls (4, .inl (w40 7)))) (by rw [← hH1, ← hT]; rfl) X'
  refine ⟨t, st t ?_, b2⟩
  rw [hT]
  exact b1
theorem n_astq (hx : p.tables.exec = Jvm.exec) (hb : c.code = cc) (hK : va_K D cl tys s) (hP : va_P D cl ws H) (hD : va_D A ws) (hS : va_S A H0 H locs) (q0 t0 qk ci : Nat) {cA : ClassId} {r : vw_C} {n v : Nat} {vs : List Value} {f : Nat → Option Nat} (ha : ws[q0]? = some (a, .inl (cA, n, .inr (.inr (.inr (.inr f)))))) (ht : tys[t0]? = some (cA, .object r.1)) (hv : ws[qk]? = some (v, .inr (ci, vs))) (hc : cl[ci]? = some r) {i : Int32} (hin : vp_in i n) {j : Nat} (hj : i.toNatClampNeg = j) (hdg : decode cc pc = .ok (.aastore, 1))
    (kk : ∀ (H1 : Heap) (locs1 : List Loc), va_P D cl (ws.set q0 (a, .inl (cA, n, .inr (.inr (.inr (.inr (va_up f j (some v)))))))) H1 → va_D A (ws.set q0 (a, .inl (cA, n, .inr (.inr (.inr (.inr (va_up f j (some v)))))))) → va_S A H0 H1 locs1 → W p l e R s m args below meth c H1 locs1 cells slots Q (F0 m (pc + 1) ls rest)) : W p l e R s m args below meth c H locs cells slots Q (F0 m pc ls (.ref v :: .int i :: .ref a :: rest)) := by
  subst hj
  exact va_astq hx hb hK hP hD hS q0 t0 qk ci ha ht hv hc hin hdg kk
end IN4
