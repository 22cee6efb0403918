/-! the law: what holds at its start -/
theorem nest_in : ∀ q ∈ nestL, q ∈ lw_tbl := by decide +kernel
theorem env_N {s : State} {b : Nat} (hts : ∀ w ∈ lw_tbl, w.before #[Value.ref b] s = true) : NW s := fun q hq => va_Nw.of (nestL_t q hq) (hts q (nest_in q hq))
theorem env_K {s : State} {b : Nat} (hts : ∀ w ∈ lw_tbl, w.before #[Value.ref b] s = true) : ∃ (D : va_G) (cI cC cQ : ClassId), va_K D vwCl [(cI, .int), (cC, .char), (cQ, .object "LoadedForTheLane$Way")] s := by
  obtain ⟨c0, i0, k0⟩ := u_known (C := RX1) (T := TX1) (N := 2) (n := 2) hts inX1 (hts (.instantiable RX1 2) (by decide +kernel))
  obtain ⟨c1, i1, k1⟩ := u_known (C := RX3) (T := TX3) (N := 2) (n := 2) hts inX3 (hts (.instantiable RX3 2) (by decide +kernel))
  obtain ⟨c2, i2, k2⟩ := u_known (C := RX4) (T := TX4) (N := 10) (n := 10) hts inX4 (hts (.instantiable RX4 10) (by decide +kernel))
  obtain ⟨c3, i3, k3⟩ := u_known (C := RX5) (T := TX5) (N := 4) (n := 4) hts inX5 (hts (.instantiable RX5 4) (by decide +kernel))
  obtain ⟨c4, i4, k4⟩ := u_known (C := RX6) (T := TX6) (N := 7) (n := 7) hts inX6 (hts (.instantiable RX6 7) (by decide +kernel))
  obtain ⟨c5, i5, k5⟩ := u_known (C := RX7) (T := TX7) (N := 29) (n := 29) hts inX7 (hts (.instantiable RX7 29) (by decide +kernel))
  obtain ⟨dC, dI, hKc⟩ : ∃ (dC : Nat → ClassId) (dI : Nat → Nat → Nat), ∀ (k : Nat) (q : vw_C), vwCl[k]? = some q → u_Kn s q.1 q.2.1 q.2.2 (dC k) (dI k) := by
    refine ⟨fun k => if k = 0 then c0 else if k = 1 then c1 else if k = 2 then c2 else if k = 3 then c3 else if k = 4 then c4 else c5, fun k => if k = 0 then i0 else if k = 1 then i1 else if k = 2 then i2 else if k = 3 then i3 else if k = 4 then i4 else i5, ?_⟩
    intro k q hq
    match k, hq with
    | 0, hq => cases hq; exact k0
    | 1, hq => cases hq; exact k1
    | 2, hq => cases hq; exact k2
    | 3, hq => cases hq; exact k3
    | 4, hq => cases hq; exact k4
    | 5, hq => cases hq; exact k5
    | k + 6, hq => exact absurd (List.getElem?_eq_some_iff.mp hq).1 (by show ¬ k + 6 < 6; omega)
  obtain ⟨cI, kI, pI, a1, a2, a3⟩ := Cond.arrayClass_spec (args := #[Value.ref b]) (first := s) (o := none) (s := s) (idx := []) (type := .int) (hts (.arrayClass .int) (by decide +kernel))
  obtain ⟨cC, kC, pC, b1, b2, b3⟩ := Cond.arrayClass_spec (args := #[Value.ref b]) (first := s) (o := none) (s := s) (idx := []) (type := .char) (hts (.arrayClass .char) (by decide +kernel))
  obtain ⟨pQ, cQ, kQ, d1, d2, d3, d4, d5⟩ := Cond.arrayOver_spec (args := #[Value.ref b]) (first := s) (o := none) (s := s) (idx := []) (n := "LoadedForTheLane$Way") (hts (.arrayOver (.object "LoadedForTheLane$Way")) (by decide +kernel))
  refine ⟨(dC, dI), cI, cC, cQ, hKc, fun k q hk => ?_⟩
  match k, hk with
  | 0, hk => cases hk; exact ⟨fun n z => ⟨(fun k h => by cases h), kI, a2, pI, a3⟩, a1⟩
  | 1, hk => cases hk; exact ⟨fun n z => ⟨(fun k h => by cases h), kC, b2, pC, b3⟩, b1⟩
  | 2, hk => cases hk; exact ⟨fun n z => ⟨(fun k h => by cases h), kQ, d3, pQ, d4⟩, kQ, pQ, d3, d4, d1, d5⟩
  | k + 3, hk => exact absurd (List.getElem?_eq_some_iff.mp hk).1 (by show ¬ k + 3 < 3; omega)
theorem env_A {s : State} : ∀ a : Nat, a < s.heap.size → ¬ (fun q : Nat => s.heap.size ≤ q) a := fun a h => Nat.not_le.mpr h
set_option maxRecDepth 20000 in
theorem env_SE {s : State} {b : Nat} (hts : ∀ w ∈ lw_tbl, w.before #[Value.ref b] s = true) (hgv : (Jvm.Cond.and given_1 narrow_1).before #[Value.ref b] s = true) : ∃ sd : Nat → Nat, SE sd (fun q : Nat => s.heap.size ≤ q) s s.heap := by
  have hs := flat_of_before _ hgv
  obtain ⟨t0, e0, T0⟩ := va_Tof (args := #[Value.ref b]) (s := s) (tm := .static "LoadedForTheLane" "LEAST_SETTING" "[I") (ty := .int) (N := 4) (f := fun j => .int (leastS j)) (A := (fun q : Nat => s.heap.size ≤ q)) (by decide) (hs _ (by decide +kernel)) (va_eqt (z := 4) (hs _ (by decide +kernel))) (fun j hj => by
    rcases (show j = 0 ∨ j = 1 ∨ j = 2 ∨ j = 3 by omega) with rfl | rfl | rfl | rfl
    · exact va_eqt (z := leastS 0) (hs _ (by decide +kernel))
    · exact va_eqt (z := leastS 1) (hs _ (by decide +kernel))
    · exact va_eqt (z := leastS 2) (hs _ (by decide +kernel))
    · exact va_eqt (z := leastS 3) (hs _ (by decide +kernel))) env_A
  obtain ⟨t1, e1, T1⟩ := va_Tof (args := #[Value.ref b]) (s := s) (tm := .static "LoadedForTheLane" "MOST_SETTING" "[I") (ty := .int) (N := 4) (f := fun j => .int (mostS j)) (A := (fun q : Nat => s.heap.size ≤ q)) (by decide) (hs _ (by decide +kernel)) (va_eqt (z := 4) (hs _ (by decide +kernel))) (fun j hj => by
    rcases (show j = 0 ∨ j = 1 ∨ j = 2 ∨ j = 3 by omega) with rfl | rfl | rfl | rfl
    · exact va_eqt (z := mostS 0) (hs _ (by decide +kernel))
    · exact va_eqt (z := mostS 1) (hs _ (by decide +kernel))
    · exact va_eqt (z := mostS 2) (hs _ (by decide +kernel))
    · exact va_eqt (z := mostS 3) (hs _ (by decide +kernel))) env_A
  exact ⟨fun k => if k = 0 then t0 else t1, va_Zof (hts (.laysStatic "LoadedForTheLane" "LEAST_SETTING" "[I") (by decide +kernel)) (hts (.initialized "LoadedForTheLane") (by decide +kernel)) e0 env_A, T0, va_Zof (hts (.laysStatic "LoadedForTheLane" "MOST_SETTING" "[I") (by decide +kernel)) (hts (.initialized "LoadedForTheLane") (by decide +kernel)) e1 env_A, T1⟩
set_option maxRecDepth 20000 in
theorem env_FE {s : State} {b : Nat} (hts : ∀ w ∈ lw_tbl, w.before #[Value.ref b] s = true) (hgv : (Jvm.Cond.and given_1 narrow_1).before #[Value.ref b] s = true) {D : va_G} {cI cC cQ : ClassId} (hK : va_K D vwCl [(cI, .int), (cC, .char), (cQ, .object "LoadedForTheLane$Way")] s) : ∃ sf : Nat, FE cI sf (fun q : Nat => s.heap.size ≤ q) s s.heap := by
  have hs := flat_of_before _ hgv
  have hlen : (Term.length (.static "LoadedForTheLane" "FIRST_SETTING" "[I")).eval #[Value.ref b] s none [] s = some (.int 4) := va_eqt (z := 4) (hs _ (by decide +kernel))
  obtain ⟨t0, e0, cell, T1, T2, T3, T4, T5, T6, T7⟩ := va_Tof (args := #[Value.ref b]) (s := s) (tm := .static "LoadedForTheLane" "FIRST_SETTING" "[I") (ty := .int) (N := 4) (f := fun j => .int (w40 7 j)) (A := (fun q : Nat => s.heap.size ≤ q)) (by decide) (hs _ (by decide +kernel)) hlen (fun j hj => by
    rcases (show j = 0 ∨ j = 1 ∨ j = 2 ∨ j = 3 by omega) with rfl | rfl | rfl | rfl
    · exact va_eqt (z := w40 7 0) (hs _ (by decide +kernel))
    · exact va_eqt (z := w40 7 1) (hs _ (by decide +kernel))
    · exact va_eqt (z := w40 7 2) (hs _ (by decide +kernel))
    · exact va_eqt (z := w40 7 3) (hs _ (by decide +kernel))) env_A
  obtain ⟨x1, x2, x3, x4, y1, y2, y3, y4, y5, y6, -⟩ := Cond.exactly_spec (args := #[Value.ref b]) (first := s) (o := none) (s := s) (idx := []) (t := .static "LoadedForTheLane" "FIRST_SETTING" "[I") (cls := "[I") (hs _ (by decide +kernel))
  have ha : x1 = t0 := by cases e0.symm.trans y1; rfl
  subst ha
  have hc : x3 = cell := Option.some.inj (y3.symm.trans T1)
  subst hc
  have h0 : s.vm.findClass "[I" = some cI := (hK.2 0 _ rfl).2
  have hcI : x2 = cI := Option.some.inj (y2.symm.trans h0)
  obtain ⟨t9, cell9, g1, g2, g3⟩ := Term.length_spec hlen
  have h9 : t9 = x1 := by cases g1.symm.trans y1; rfl
  subst h9
  obtain ⟨g4, -⟩ := State.arrayAt?_spec g2
  have hc9 : cell9 = x3 := Option.some.inj (g4.symm.trans T1)
  subst hc9
  have hlt : cell9.slots.size < 2147483648 := by
    have hv := hlen
    simp only [Term.eval, Option.bind_eq_bind] at hv
    by_cases c : cell9.slots.size < 2147483648
    · exact c
    · exfalso
      have e1 : (Term.static "LoadedForTheLane" "FIRST_SETTING" "[I").eval #[Value.ref b] s none [] s = some (.ref t9) := e0
      simp only [Term.eval, Option.bind_eq_bind] at e1
      simp [e1, g2, c] at hv
  have hsz : cell9.slots.size = 4 := by
    have h1 : (cell9.slots.size.toInt32).toInt = ((4 : Nat) : Int) := by rw [T5]; rfl
    have h2 : (Int32.ofNat cell9.slots.size).toInt = (cell9.slots.size : Int) := ii_t (by omega)
    have h3 : cell9.slots.size.toInt32 = Int32.ofNat cell9.slots.size := rfl
    rw [h3, h2] at h1
    omega
  refine ⟨t9, va_Zof (hts (.laysStatic "LoadedForTheLane" "FIRST_SETTING" "[I") (by decide +kernel)) (hts (.initialized "LoadedForTheLane") (by decide +kernel)) e0 env_A, ⟨cell9, T1, y6.trans hcI, y5, T3, ?_, T7⟩, va_Nw.of rfl (hts (.castable "[I" "java/lang/Cloneable") (by decide +kernel)), hts (.arrayOver (.object RX5)) (by decide +kernel)⟩
  apply Array.ext
  · rw [hsz, Array.size_ofFn]
  · intro i h1 h2
    have h3 := T6 i (by omega)
    rw [Array.getElem?_eq_getElem h1] at h3
    rw [Array.getElem_ofFn]
    exact Option.some.inj h3
def txT (i : Nat) : Term := if i = 0 then .string "LoadedForTheLane$LayerKinds" 9 else if i = 1 then .string "LoadedForTheLane$PieceKinds" 9 else if i = 2 then .string "LoadedForTheLane$Letters" 31 else if i = 3 then .string "LoadedForTheLane$Letters" 51 else if i = 4 then .string "LoadedForTheLane$Letters" 53 else if i = 5 then .string "LoadedForTheLane$Letters" 55 else if i = 6 then .string "LoadedForTheLane$Letters" 57 else if i = 7 then .string "LoadedForTheLane$Letters" 59 else .string "LoadedForTheLane$Letters" 61
set_option maxRecDepth 20000 in
theorem tx_ex {s : State} {b : Nat} (hgv : (Jvm.Cond.and given_1 narrow_1).before #[Value.ref b] s = true) : ∀ i : Nat, i < 9 → (Cond.exactly (txT i) "java/lang/String").before #[Value.ref b] s = true := by
  have hs := flat_of_before _ hgv
  intro i hi
  rcases (show i = 0 ∨ i = 1 ∨ i = 2 ∨ i = 3 ∨ i = 4 ∨ i = 5 ∨ i = 6 ∨ i = 7 ∨ i = 8 by omega) with rfl | rfl | rfl | rfl | rfl | rfl | rfl | rfl | rfl <;> exact hs _ (by decide +kernel)
set_option maxRecDepth 20000 in
theorem tx_co {s : State} {b : Nat} (hgv : (Jvm.Cond.and given_1 narrow_1).before #[Value.ref b] s = true) : ∀ i : Nat, i < 9 → (Cond.eq (.field (txT i) "java/lang/String" "coder" "B") (.int 0)).before #[Value.ref b] s = true := by
  have hs := flat_of_before _ hgv
  intro i hi
  rcases (show i = 0 ∨ i = 1 ∨ i = 2 ∨ i = 3 ∨ i = 4 ∨ i = 5 ∨ i = 6 ∨ i = 7 ∨ i = 8 by omega) with rfl | rfl | rfl | rfl | rfl | rfl | rfl | rfl | rfl <;> exact hs _ (by decide +kernel)
set_option maxRecDepth 20000 in
theorem tx_ar {s : State} {b : Nat} (hgv : (Jvm.Cond.and given_1 narrow_1).before #[Value.ref b] s = true) : ∀ i : Nat, i < 9 → (Cond.arrayOf (.field (txT i) "java/lang/String" "value" "[B") .byte).before #[Value.ref b] s = true := by
  have hs := flat_of_before _ hgv
  intro i hi
  rcases (show i = 0 ∨ i = 1 ∨ i = 2 ∨ i = 3 ∨ i = 4 ∨ i = 5 ∨ i = 6 ∨ i = 7 ∨ i = 8 by omega) with rfl | rfl | rfl | rfl | rfl | rfl | rfl | rfl | rfl <;> exact hs _ (by decide +kernel)
set_option maxRecDepth 20000 in
theorem tx_le {s : State} {b : Nat} (hgv : (Jvm.Cond.and given_1 narrow_1).before #[Value.ref b] s = true) : ∀ i : Nat, i < 9 → (Cond.eq (.length (.field (txT i) "java/lang/String" "value" "[B")) (.int (Int32.ofNat (lenS.getD i 0)))).before #[Value.ref b] s = true := by
  have hs := flat_of_before _ hgv
  intro i hi
  rcases (show i = 0 ∨ i = 1 ∨ i = 2 ∨ i = 3 ∨ i = 4 ∨ i = 5 ∨ i = 6 ∨ i = 7 ∨ i = 8 by omega) with rfl | rfl | rfl | rfl | rfl | rfl | rfl | rfl | rfl <;> exact hs _ (by decide +kernel)
set_option maxRecDepth 20000 in
theorem tx_el {s : State} {b : Nat} (hgv : (Jvm.Cond.and given_1 narrow_1).before #[Value.ref b] s = true) : ∀ i : Nat, i < 9 → ∀ j : Nat, j < lenS.getD i 0 → (Cond.eq (.elem (.field (txT i) "java/lang/String" "value" "[B") (.int (Int32.ofNat j))) (.int ((bytS.getD i []).getD j 0))).before #[Value.ref b] s = true := by
  have hs := flat_of_before _ hgv
  intro i hi j hj
  rcases (show i = 0 ∨ i = 1 ∨ i = 2 ∨ i = 3 ∨ i = 4 ∨ i = 5 ∨ i = 6 ∨ i = 7 ∨ i = 8 by omega) with rfl | rfl | rfl | rfl | rfl | rfl | rfl | rfl | rfl
  · have hj : j < 7 := hj
    rcases (show j = 0 ∨ j = 1 ∨ j = 2 ∨ j = 3 ∨ j = 4 ∨ j = 5 ∨ j = 6 by omega) with rfl | rfl | rfl | rfl | rfl | rfl | rfl <;> exact hs _ (by decide +kernel)
  · have hj : j < 6 := hj
    rcases (show j = 0 ∨ j = 1 ∨ j = 2 ∨ j = 3 ∨ j = 4 ∨ j = 5 by omega) with rfl | rfl | rfl | rfl | rfl | rfl <;> exact hs _ (by decide +kernel)
  · exact absurd hj (Nat.not_lt_zero j)
  · have hj : j < 7 := hj
    rcases (show j = 0 ∨ j = 1 ∨ j = 2 ∨ j = 3 ∨ j = 4 ∨ j = 5 ∨ j = 6 by omega) with rfl | rfl | rfl | rfl | rfl | rfl | rfl <;> exact hs _ (by decide +kernel)
  · have hj : j < 6 := hj
    rcases (show j = 0 ∨ j = 1 ∨ j = 2 ∨ j = 3 ∨ j = 4 ∨ j = 5 by omega) with rfl | rfl | rfl | rfl | rfl | rfl <;> exact hs _ (by decide +kernel)
  · have hj : j < 2 := hj
    rcases (show j = 0 ∨ j = 1 by omega) with rfl | rfl <;> exact hs _ (by decide +kernel)
  · have hj : j < 3 := hj
    rcases (show j = 0 ∨ j = 1 ∨ j = 2 by omega) with rfl | rfl | rfl <;> exact hs _ (by decide +kernel)
  · have hj : j < 4 := hj
    rcases (show j = 0 ∨ j = 1 ∨ j = 2 ∨ j = 3 by omega) with rfl | rfl | rfl | rfl <;> exact hs _ (by decide +kernel)
  · have hj : j < 1 := hj
    obtain rfl : j = 0 := by omega
    exact hs _ (by decide +kernel)
set_option maxRecDepth 20000 in
theorem tx_ne {s : State} {b : Nat} (hgv : (Jvm.Cond.and given_1 narrow_1).before #[Value.ref b] s = true) : ∀ i j : Nat, i < 9 → j < 9 → i ≠ j → (Cond.not (Cond.eq (txT i) (txT j))).before #[Value.ref b] s = true ∨ (Cond.not (Cond.eq (txT j) (txT i))).before #[Value.ref b] s = true := by
  have hs := flat_of_before _ hgv
  intro i j hi hj hij
  rcases (show i = 0 ∨ i = 1 ∨ i = 2 ∨ i = 3 ∨ i = 4 ∨ i = 5 ∨ i = 6 ∨ i = 7 ∨ i = 8 by omega) with rfl | rfl | rfl | rfl | rfl | rfl | rfl | rfl | rfl
  · rcases (show j = 0 ∨ j = 1 ∨ j = 2 ∨ j = 3 ∨ j = 4 ∨ j = 5 ∨ j = 6 ∨ j = 7 ∨ j = 8 by omega) with rfl | rfl | rfl | rfl | rfl | rfl | rfl | rfl | rfl
    · exact absurd rfl hij
    · exact Or.inl (hs _ (by decide +kernel))
    · exact Or.inr (hs _ (by decide +kernel))
    · exact Or.inr (hs _ (by decide +kernel))
    · exact Or.inr (hs _ (by decide +kernel))
    · exact Or.inr (hs _ (by decide +kernel))
    · exact Or.inr (hs _ (by decide +kernel))
    · exact Or.inr (hs _ (by decide +kernel))
    · exact Or.inr (hs _ (by decide +kernel))
  · rcases (show j = 0 ∨ j = 1 ∨ j = 2 ∨ j = 3 ∨ j = 4 ∨ j = 5 ∨ j = 6 ∨ j = 7 ∨ j = 8 by omega) with rfl | rfl | rfl | rfl | rfl | rfl | rfl | rfl | rfl
    · exact Or.inr (hs _ (by decide +kernel))
    · exact absurd rfl hij
    · exact Or.inr (hs _ (by decide +kernel))
    · exact Or.inr (hs _ (by decide +kernel))
    · exact Or.inr (hs _ (by decide +kernel))
    · exact Or.inr (hs _ (by decide +kernel))
    · exact Or.inr (hs _ (by decide +kernel))
    · exact Or.inr (hs _ (by decide +kernel))
    · exact Or.inr (hs _ (by decide +kernel))
  · rcases (show j = 0 ∨ j = 1 ∨ j = 2 ∨ j = 3 ∨ j = 4 ∨ j = 5 ∨ j = 6 ∨ j = 7 ∨ j = 8 by omega) with rfl | rfl | rfl | rfl | rfl | rfl | rfl | rfl | rfl
    · exact Or.inl (hs _ (by decide +kernel))
    · exact Or.inl (hs _ (by decide +kernel))
    · exact absurd rfl hij
    · exact Or.inl (hs _ (by decide +kernel))
    · exact Or.inl (hs _ (by decide +kernel))
    · exact Or.inl (hs _ (by decide +kernel))
    · exact Or.inl (hs _ (by decide +kernel))
    · exact Or.inl (hs _ (by decide +kernel))
    · exact Or.inl (hs _ (by decide +kernel))
  · rcases (show j = 0 ∨ j = 1 ∨ j = 2 ∨ j = 3 ∨ j = 4 ∨ j = 5 ∨ j = 6 ∨ j = 7 ∨ j = 8 by omega) with rfl | rfl | rfl | rfl | rfl | rfl | rfl | rfl | rfl
    · exact Or.inl (hs _ (by decide +kernel))
    · exact Or.inl (hs _ (by decide +kernel))
    · exact Or.inr (hs _ (by decide +kernel))
    · exact absurd rfl hij
    · exact Or.inl (hs _ (by decide +kernel))
    · exact Or.inl (hs _ (by decide +kernel))
    · exact Or.inl (hs _ (by decide +kernel))
    · exact Or.inl (hs _ (by decide +kernel))
    · exact Or.inl (hs _ (by decide +kernel))
  · rcases (show j = 0 ∨ j = 1 ∨ j = 2 ∨ j = 3 ∨ j = 4 ∨ j = 5 ∨ j = 6 ∨ j = 7 ∨ j = 8 by omega) with rfl | rfl | rfl | rfl | rfl | rfl | rfl | rfl | rfl
    · exact Or.inl (hs _ (by decide +kernel))
    · exact Or.inl (hs _ (by decide +kernel))
    · exact Or.inr (hs _ (by decide +kernel))
    · exact Or.inr (hs _ (by decide +kernel))
    · exact absurd rfl hij
    · exact Or.inl (hs _ (by decide +kernel))
    · exact Or.inl (hs _ (by decide +kernel))
    · exact Or.inl (hs _ (by decide +kernel))
    · exact Or.inl (hs _ (by decide +kernel))
  · rcases (show j = 0 ∨ j = 1 ∨ j = 2 ∨ j = 3 ∨ j = 4 ∨ j = 5 ∨ j = 6 ∨ j = 7 ∨ j = 8 by omega) with rfl | rfl | rfl | rfl | rfl | rfl | rfl | rfl | rfl
    · exact Or.inl (hs _ (by decide +kernel))
    · exact Or.inl (hs _ (by decide +kernel))
    · exact Or.inr (hs _ (by decide +kernel))
    · exact Or.inr (hs _ (by decide +kernel))
    · exact Or.inr (hs _ (by decide +kernel))
    · exact absurd rfl hij
    · exact Or.inl (hs _ (by decide +kernel))
    · exact Or.inl (hs _ (by decide +kernel))
    · exact Or.inl (hs _ (by decide +kernel))
  · rcases (show j = 0 ∨ j = 1 ∨ j = 2 ∨ j = 3 ∨ j = 4 ∨ j = 5 ∨ j = 6 ∨ j = 7 ∨ j = 8 by omega) with rfl | rfl | rfl | rfl | rfl | rfl | rfl | rfl | rfl
    · exact Or.inl (hs _ (by decide +kernel))
    · exact Or.inl (hs _ (by decide +kernel))
    · exact Or.inr (hs _ (by decide +kernel))
    · exact Or.inr (hs _ (by decide +kernel))
    · exact Or.inr (hs _ (by decide +kernel))
    · exact Or.inr (hs _ (by decide +kernel))
    · exact absurd rfl hij
    · exact Or.inl (hs _ (by decide +kernel))
    · exact Or.inl (hs _ (by decide +kernel))
  · rcases (show j = 0 ∨ j = 1 ∨ j = 2 ∨ j = 3 ∨ j = 4 ∨ j = 5 ∨ j = 6 ∨ j = 7 ∨ j = 8 by omega) with rfl | rfl | rfl | rfl | rfl | rfl | rfl | rfl | rfl
    · exact Or.inl (hs _ (by decide +kernel))
    · exact Or.inl (hs _ (by decide +kernel))
    · exact Or.inr (hs _ (by decide +kernel))
    · exact Or.inr (hs _ (by decide +kernel))
    · exact Or.inr (hs _ (by decide +kernel))
    · exact Or.inr (hs _ (by decide +kernel))
    · exact Or.inr (hs _ (by decide +kernel))
    · exact absurd rfl hij
    · exact Or.inl (hs _ (by decide +kernel))
  · rcases (show j = 0 ∨ j = 1 ∨ j = 2 ∨ j = 3 ∨ j = 4 ∨ j = 5 ∨ j = 6 ∨ j = 7 ∨ j = 8 by omega) with rfl | rfl | rfl | rfl | rfl | rfl | rfl | rfl | rfl
    · exact Or.inl (hs _ (by decide +kernel))
    · exact Or.inl (hs _ (by decide +kernel))
    · exact Or.inr (hs _ (by decide +kernel))
    · exact Or.inr (hs _ (by decide +kernel))
    · exact Or.inr (hs _ (by decide +kernel))
    · exact Or.inr (hs _ (by decide +kernel))
    · exact Or.inr (hs _ (by decide +kernel))
    · exact Or.inr (hs _ (by decide +kernel))
    · exact absurd rfl hij
set_option maxRecDepth 20000 in
theorem env_STR {s : State} {b : Nat} (hts : ∀ w ∈ lw_tbl, w.before #[Value.ref b] s = true) (hgv : (Jvm.Cond.and given_1 narrow_1).before #[Value.ref b] s = true) : ∃ aK aV : Nat → Nat, STR aK aV (fun q : Nat => s.heap.size ≤ q) s s.heap := by
  have hs := flat_of_before _ hgv
  obtain ⟨aK, aV, h1, h2⟩ := vk_Sof (args := #[Value.ref b]) (s := s) (N := 9) (tm := txT) (len := lenS) (byt := bytS) (A := (fun q : Nat => s.heap.size ≤ q)) (fun i hi => by
    rcases (show i = 0 ∨ i = 1 ∨ i = 2 ∨ i = 3 ∨ i = 4 ∨ i = 5 ∨ i = 6 ∨ i = 7 ∨ i = 8 by omega) with rfl | rfl | rfl | rfl | rfl | rfl | rfl | rfl | rfl <;> decide) (tx_ex hgv) (tx_co hgv) (tx_ar hgv) (tx_le hgv) (tx_el hgv) (tx_ne hgv) env_A
  refine ⟨aK, aV, h1, va_Zof (hts (.laysStatic "java/lang/String" "COMPACT_STRINGS" "Z") (by decide +kernel)) (hts (.initialized "java/lang/String") (by decide +kernel)) (va_eqi (z := 1) (hs _ (by decide +kernel))) env_A, va_Zqof (hts (.laysStatic "jdk/internal/util/Preconditions" "SIOOBE_FORMATTER" "Ljava/util/function/BiFunction;") (by decide +kernel)) (hts (.initialized "jdk/internal/util/Preconditions") (by decide +kernel)) (hs _ (by decide +kernel)) env_A, vk_R.of (hts (.stringRef "LoadedForTheLane$LayerKinds" 9 "lbowhtm") (by decide +kernel)) (h2 0 (by decide)), vk_R.of (hts (.stringRef "LoadedForTheLane$PieceKinds" 9 "sdjbrg") (by decide +kernel)) (h2 1 (by decide)), vk_R.of (hts (.stringRef "LoadedForTheLane$Letters" 31 "") (by decide +kernel)) (h2 2 (by decide)), vk_R.of (hts (.stringRef "LoadedForTheLane$Letters" 51 "L000+0;") (by decide +kernel)) (h2 3 (by decide)), vk_R.of (hts (.stringRef "LoadedForTheLane$Letters" 53 "0P000;") (by decide +kernel)) (h2 4 (by decide)), vk_R.of (hts (.stringRef "LoadedForTheLane$Letters" 55 "0;") (by decide +kernel)) (h2 5 (by decide)), vk_R.of (hts (.stringRef "LoadedForTheLane$Letters" 57 "00;") (by decide +kernel)) (h2 6 (by decide)), vk_R.of (hts (.stringRef "LoadedForTheLane$Letters" 59 "0??;") (by decide +kernel)) (h2 7 (by decide)), vk_R.of (hts (.stringRef "LoadedForTheLane$Letters" 61 ";") (by decide +kernel)) (h2 8 (by decide))⟩
