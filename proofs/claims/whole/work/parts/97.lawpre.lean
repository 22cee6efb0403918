/-! the law: calls of the two objects, side by side -/
theorem x6_preL {s : State} {H : Heap} {locs : List Loc} {D : va_G} {cI cC cQ : ClassId} {ad : Nat → Nat → Nat} {sd aK aV : Nat → Nat} {w : Nat → Nat → Nat → Int32} {As : List Value} {A : Nat → Prop} (hK : va_K D vwCl [(cI, .int), (cC, .char), (cQ, .object "LoadedForTheLane$Way")] s) (hP : va_P D vwCl (MWL cI cC cQ ad w) H) (hN : NW s) (hSE : SE sd A s s.heap) (hST : STR aK aV A s s.heap) (hAB : ∀ q, MA ad q → A q) (hS : va_S A s.heap H locs) : PreV s H RX6 (ad 5 0) (va_Pc (.ref (ad 5 0) :: As) (fun U => va_P D vwCl (MWL cI cC cQ ad w) U.heap ∧ va_K D vwCl [(cI, .int), (cC, .char), (cQ, .object "LoadedForTheLane$Way")] U ∧ NW U ∧ SE sd (MA ad) U U.heap ∧ STR aK aV (MA ad) U U.heap)) As :=
  ⟨fun a U g mk q => by obtain ⟨q0, qP, qK, qN, qE, qT⟩ := q; exact ⟨q0, qP, va_K.moved (u := U) (U := U.calling g mk a) (Vm.Alike.refl U.vm) qK, NW.same (u := U) (U := U.calling g mk a) rfl qN, SE.moved (u := U) (U := U.calling g mk a) (Vm.Alike.refl U.vm) qE, STR.same (u := U) (U := U.calling g mk a) rfl qT⟩, va_recv hK hP (ci := 4) (q0 := 58) rfl rfl, fun U hU hW => ⟨rfl, by rw [hU]; exact hP, va_K.moved hW.alike hK, NW.warm hW hN, by rw [hU]; exact SE.moved hW.alike ((hSE.kept hS.2.1).narrow hAB), by rw [hU]; exact STR.warm hW ((hST.kept hS.2.1).narrow hAB)⟩⟩
theorem x7_preL {s : State} {H : Heap} {D : va_G} {cI : ClassId} {ad : Nat → Nat} {w : Nat → Nat → Int32} {As : List Value} (hK : va_K D vwCl [(cI, .int)] s) (hP : va_P D vwCl (RM cI ad w) H) : PreV s H RX7 (ad 0) (va_Pc (.ref (ad 0) :: As) (fun U => va_P D vwCl (RM cI ad w) U.heap ∧ va_K D vwCl [(cI, .int)] U)) As :=
  ⟨fun a U g mk q => by obtain ⟨q0, qP, qK⟩ := q; exact ⟨q0, qP, va_K.moved (u := U) (U := U.calling g mk a) (Vm.Alike.refl U.vm) qK⟩, va_recv hK hP (ci := 5) (q0 := 0) rfl rfl, fun U hU hW => ⟨rfl, by rw [hU]; exact hP, va_K.moved hW.alike hK⟩⟩
theorem keep7 {D : va_G} {cI : ClassId} {adx : Nat → Nat → Nat} {adm : Nat → Nat} {w : Nat → Nat → Int32} {H H1 : Heap} (hP : va_P D vwCl (RM cI adm w) H) (hdis : ∀ q, RA adm q → ¬ MA adx q) (hfr : ∀ q : Nat, q < H.size → ¬ MA adx q → H1[q]? = H[q]?) : va_P D vwCl (RM cI adm w) H1 :=
  hP.kept (fun k q hk => hfr q.1 (hP k q hk).lt (hdis _ ⟨k, (RM_ix hk).1, (RM_ix hk).2⟩))
theorem keep6 {D : va_G} {cI cC cQ : ClassId} {adx : Nat → Nat → Nat} {adm : Nat → Nat} {w : Nat → Nat → Nat → Int32} {H H1 : Heap} (hP : va_P D vwCl (MWL cI cC cQ adx w) H) (hdis : ∀ q, RA adm q → ¬ MA adx q) (hfr : ∀ q : Nat, q < H.size → ¬ RA adm q → H1[q]? = H[q]?) : va_P D vwCl (MWL cI cC cQ adx w) H1 :=
  hP.kept (fun k q hk => hfr q.1 (hP k q hk).lt (fun z => hdis _ z ⟨k, (MWL_ix hk).1, (MWL_ix hk).2⟩))
def LAW (p : Program) (s : State) (m : MethodId) (c : Code) (b L : Nat) (xs : Nat → Int32) (D : va_G) (cI cC cQ : ClassId) (adx : Nat → Nat → Nat) (adm sd aK aV : Nat → Nat) : Prop :=
  p.tables.exec = Jvm.exec ∧ c.code = code ∧ c.maxLocals = 4 ∧ s.vm.findClass RL = some m.cls ∧ (∀ w ∈ wsL_law, w.before #[Value.ref b] s = true) ∧ va_X b L xs s s.heap ∧ b < s.heap.size ∧ va_K D vwCl [(cI, .int), (cC, .char), (cQ, .object "LoadedForTheLane$Way")] s ∧ NW s ∧ SE sd (fun q : Nat => s.heap.size ≤ q) s s.heap ∧ STR aK aV (fun q : Nat => s.heap.size ≤ q) s s.heap ∧ MD adx ∧ RD adm ∧ (∀ q, MA adx q → s.heap.size ≤ q) ∧ (∀ q, RA adm q → s.heap.size ≤ q) ∧ (∀ q, RA adm q → ¬ MA adx q)
theorem ix31 (x : Int32) : 0 ≤ (x &&& 31).toInt ∧ (x &&& 31).toInt ≤ 31 := by
  have h1 : (x &&& 31).toUInt32.toNat ≤ 31 := by
    show (x.toUInt32 &&& 31).toNat ≤ 31
    rw [UInt32.toNat_and]
    exact Nat.and_le_right
  obtain ⟨v, hv⟩ : ∃ v : Int32, v = x &&& 31 := ⟨_, rfl⟩
  rw [← hv] at h1 ⊢
  have h2 : v.toBitVec.toInt = v.toInt := rfl
  have h3 : v.toUInt32.toNat = v.toBitVec.toNat := rfl
  have h4 := BitVec.toInt_eq_toNat_cond v.toBitVec
  rw [h3] at h1
  rw [← h2]
  split at h4 <;> omega
theorem lcmp0 {a b : Int64} (h : a = b) : lg_cmp a b = 0 := by
  subst h
  unfold lg_cmp
  rw [if_neg (show ¬ a > a from Int64.lt_irrefl), if_pos rfl]
