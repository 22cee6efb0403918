/-! sums -/
def sm (f : Nat → Int32) (k : Nat) : Nat → Int32
  | 0 => 0
  | m + 1 => sm f k m + f (k + m)
theorem sm_left (f : Nat → Int32) : ∀ m k, sm f k (m + 1) = f k + sm f (k + 1) m := by
  intro m
  induction m with
  | zero => intro k; show 0 + f k = f k + 0; rw [Int32.zero_add, Int32.add_zero]
  | succ m ih =>
    intro k
    show sm f k (m + 1) + f (k + (m + 1)) = f k + (sm f (k + 1) m + f (k + 1 + m))
    rw [ih, Int32.add_assoc, show k + (m + 1) = k + 1 + m by omega]
theorem sm_cong {f g : Nat → Int32} {k : Nat} : ∀ m, (∀ j, k ≤ j → j < k + m → f j = g j) → sm f k m = sm g k m := by
  intro m
  induction m with
  | zero => intro _; rfl
  | succ m ih =>
    intro h
    show sm f k m + f (k + m) = sm g k m + g (k + m)
    rw [ih (fun j h1 h2 => h j h1 (by omega)), h (k + m) (by omega) (by omega)]
theorem sm_bnd {f : Nat → Int32} {k : Nat} {lo hi : Int} (hlo : -10000 ≤ lo) (hl : lo ≤ hi) (hhi : hi ≤ 10000) : ∀ m, m ≤ 100 → (∀ j, k ≤ j → j < k + m → lo ≤ (f j).toInt ∧ (f j).toInt ≤ hi) → (m : Int) * lo ≤ (sm f k m).toInt ∧ (sm f k m).toInt ≤ m * hi := by
  intro m
  induction m with
  | zero => intro _ _; show ((0 : Nat) : Int) * lo ≤ (0 : Int32).toInt ∧ (0 : Int32).toInt ≤ ((0 : Nat) : Int) * hi; rw [q_0]; simp
  | succ m ih =>
    intro hm h
    have h1 := ih (by omega) (fun j a b => h j a (by omega))
    have h2 := h (k + m) (by omega) (by omega)
    have e1 : ((m + 1 : Nat) : Int) * lo = m * lo + lo := by rw [Int.natCast_add, Int.add_mul]; omega
    have e2 : ((m + 1 : Nat) : Int) * hi = m * hi + hi := by rw [Int.natCast_add, Int.add_mul]; omega
    have b1 : (100 : Int) * -10000 ≤ (m : Int) * lo := by
      have c1 : (m : Int) * -10000 ≤ (m : Int) * lo := Int.mul_le_mul_of_nonneg_left hlo (by omega)
      omega
    have b2 : (m : Int) * hi ≤ 100 * 10000 := by
      have c1 : (m : Int) * hi ≤ (m : Int) * 10000 := Int.mul_le_mul_of_nonneg_left hhi (by omega)
      omega
    have e3 : (sm f k (m + 1)).toInt = (sm f k m).toInt + (f (k + m)).toInt := i_add (by omega) (by omega)
    rw [e3, e1, e2]
    omega
theorem smL {F : Nat → Int32 → Int32 → Int32} {f : Nat → Int32} {n : Nat} (hF : ∀ m x k, k < 1000 → F (m + 1) x (ii k) = if n ≤ k then x else F m (x + f k) (ii (k + 1))) (hn : n < 1000) : ∀ m x k, k ≤ n → n - k < m → F m x (ii k) = x + sm f k (n - k) := by
  intro m
  induction m with
  | zero => intro x k h1 h2; omega
  | succ m ih =>
    intro x k h1 h2
    rw [hF m x k (by omega)]
    by_cases c : n ≤ k
    · rw [if_pos c, show n - k = 0 by omega]
      exact (Int32.add_zero x).symm
    · rw [if_neg c, ih _ _ (by omega) (by omega), show n - k = (n - (k + 1)) + 1 by omega, sm_left, Int32.add_assoc]
/-! the first place -/
def sk (p : Nat → Bool) : Nat → Nat → Nat
  | 0, k => k
  | m + 1, k => if p k = true then k else sk p m (k + 1)
theorem sk_le (p : Nat → Bool) : ∀ m k, k ≤ sk p m k ∧ sk p m k ≤ k + m := by
  intro m
  induction m with
  | zero => intro k; exact ⟨Nat.le_refl _, Nat.le_refl _⟩
  | succ m ih =>
    intro k
    rw [sk]
    split
    · omega
    · have := ih (k + 1); omega
theorem sk_no (p : Nat → Bool) : ∀ m k j, k ≤ j → j < sk p m k → p j = false := by
  intro m
  induction m with
  | zero => intro k j h1 h2; rw [sk] at h2; omega
  | succ m ih =>
    intro k j h1 h2
    rw [sk] at h2
    split at h2
    · omega
    · rename_i c
      by_cases e : j = k
      · subst e; exact Bool.eq_false_iff.mpr c
      · exact ih (k + 1) j (by omega) h2
theorem sk_yes (p : Nat → Bool) : ∀ m k, sk p m k < k + m → p (sk p m k) = true := by
  intro m
  induction m with
  | zero => intro k h; rw [sk] at h; omega
  | succ m ih =>
    intro k h
    rw [sk] at h ⊢
    split
    · rename_i c; exact c
    · rename_i c
      rw [if_neg c] at h
      exact ih (k + 1) (by omega)
theorem sk_eq {p : Nat → Bool} {m k c : Nat} (h1 : k ≤ c) (h2 : c < k + m) (h3 : p c = true) (h4 : ∀ j, k ≤ j → j < c → p j = false) : sk p m k = c := by
  have g1 := sk_le p m k
  by_cases e : sk p m k < c
  · have := sk_yes p m k (by omega)
    rw [h4 _ g1.1 e] at this
    cases this
  · by_cases f : c < sk p m k
    · have := sk_no p m k c h1 f
      rw [h3] at this
      cases this
    · omega
theorem sk_none {p : Nat → Bool} {m k : Nat} (h4 : ∀ j, k ≤ j → j < k + m → p j = false) : sk p m k = k + m := by
  have g1 := sk_le p m k
  by_cases e : sk p m k < k + m
  · have := sk_yes p m k e
    rw [h4 _ g1.1 e] at this
    cases this
  · omega
theorem sk_cong {p q : Nat → Bool} : ∀ m k, (∀ j, k ≤ j → j < k + m → p j = q j) → sk p m k = sk q m k := by
  intro m
  induction m with
  | zero => intro k _; rfl
  | succ m ih =>
    intro k h
    rw [sk, sk, h k (by omega) (by omega), ih (k + 1) (fun j a b => h j (by omega) (by omega))]
theorem skL {α : Type} {F : Nat → Int32 → α} {p : Nat → Bool} {g : Nat → α} {d : α} {n : Nat} (hF : ∀ m k, k < 1000 → F (m + 1) (ii k) = if n ≤ k then d else if p k = true then g k else F m (ii (k + 1))) (hn : n < 1000) : ∀ m k, k ≤ n → n - k < m → F m (ii k) = if sk p (n - k) k < n then g (sk p (n - k) k) else d := by
  intro m
  induction m with
  | zero => intro k h1 h2; omega
  | succ m ih =>
    intro k h1 h2
    rw [hF m k (by omega)]
    by_cases c : n ≤ k
    · have e : n - k = 0 := by omega
      rw [if_pos c, e, sk, if_neg (by omega)]
    · rw [if_neg c, show n - k = (n - (k + 1)) + 1 by omega, sk]
      by_cases d1 : p k = true
      · rw [if_pos d1, if_pos d1, if_pos (by omega)]
      · rw [if_neg d1, if_neg d1, ih _ (by omega) (by omega)]
/-! bits -/
theorem sh1_all : ∀ k, k < 32 → ∀ j, j < 32 → ((1 : Int32) <<< (ii k &&& 31)).toBitVec.getLsbD j = decide (j = k) := by decide +kernel
theorem gb {x : Int32} {j : Nat} (hj : j < 32) : ((x >>> (ii j &&& 31)) &&& 1 = 0) ↔ x.toBitVec.getLsbD j = false := by
  have h2 : ((x >>> (ii j &&& 31)) &&& 1).toBitVec.getLsbD 0 = x.toBitVec.getLsbD j := by
    show ((x >>> (Int32.ofNat j &&& 31)) &&& 1).toBitVec.getLsbD 0 = x.toBitVec.getLsbD j
    rw [Int32.toBitVec_and, Int32.toBitVec_shiftRight, BitVec.getLsbD_and, BitVec.sshiftRight_eq', sh_all j hj, BitVec.getLsbD_sshiftRight]
    simp [hj]
  constructor
  · intro h
    rw [← h2, h]
    decide
  · intro h
    apply Int32.toBitVec_inj.mp
    apply BitVec.eq_of_getLsbD_eq
    intro i hi
    by_cases h0 : i = 0
    · subst h0; rw [h2, h]; decide
    · rw [Int32.toBitVec_and, BitVec.getLsbD_and]
      have e1 : (1 : Int32).toBitVec.getLsbD i = false := by
        show (1#32).getLsbD i = false
        rw [BitVec.getLsbD_one]
        simp [h0]
      rw [e1, Bool.and_false]
      show false = (0#32).getLsbD i
      rw [BitVec.getLsbD_zero]
def fb (p : Nat → Bool) : Nat → Int32
  | 0 => 0
  | m + 1 => if p m = true then fb p m ||| (1 <<< (ii m &&& 31)) else fb p m
theorem fb_bit (p : Nat → Bool) : ∀ m, m ≤ 32 → ∀ j, j < 32 → (fb p m).toBitVec.getLsbD j = (decide (j < m) && p j) := by
  intro m
  induction m with
  | zero => intro _ j _; show (0#32).getLsbD j = (decide (j < 0) && p j); rw [BitVec.getLsbD_zero]; simp
  | succ m ih =>
    intro hm j hj
    rw [fb]
    by_cases c : p m = true
    · rw [if_pos c, Int32.toBitVec_or, BitVec.getLsbD_or, ih (by omega) j hj, sh1_all m (by omega) j hj]
      by_cases e : j = m
      · subst e; simp [c]
      · have e2 : (j < m + 1) = (j < m) := by apply propext; omega
        simp [e, e2]
    · rw [if_neg c, ih (by omega) j hj]
      by_cases e : j = m
      · subst e; simp [c]
      · have e2 : (j < m + 1) = (j < m) := by apply propext; omega
        simp [e2]
theorem fb_no {p : Nat → Bool} : ∀ m, (∀ j, j < m → p j = false) → fb p m = 0 := by
  intro m
  induction m with
  | zero => intro _; rfl
  | succ m ih =>
    intro h
    rw [fb, if_neg (by rw [h m (by omega)]; decide), ih (fun j hj => h j (by omega))]
theorem fb_0 {p : Nat → Bool} {m : Nat} (hm : m ≤ 32) (h : fb p m = 0) (j : Nat) (hj : j < m) : p j = false := by
  have h1 := fb_bit p m hm j (by omega)
  rw [h] at h1
  have h2 : (0#32).getLsbD j = (decide (j < m) && p j) := h1
  rw [BitVec.getLsbD_zero] at h2
  simp [hj] at h2
  exact h2
theorem fb_one {p : Nat → Bool} {m c : Nat} (hm : m ≤ 32) (hc : c < m) (h : ∀ j, j < m → p j = decide (j = c)) : fb p m = 1 <<< (ii c &&& 31) := by
  apply Int32.toBitVec_inj.mp
  apply BitVec.eq_of_getLsbD_eq
  intro i hi
  rw [fb_bit p m hm i hi, sh1_all c (by omega) i hi]
  by_cases e : i < m
  · rw [h i e]; simp [e]
  · have : ¬ i = c := by omega
    simp [e, this]
theorem fb_cong {p q : Nat → Bool} : ∀ m, (∀ j, j < m → p j = q j) → fb p m = fb q m := by
  intro m
  induction m with
  | zero => intro _; rfl
  | succ m ih =>
    intro h
    rw [fb, fb, h m (by omega), ih (fun j hj => h j (by omega))]
theorem fbL {α : Type} {F : Nat → Int32 → Int32 → α} {g : Int32 → α} {p : Nat → Bool} {n : Nat} (hF : ∀ m x k, k < 1000 → F (m + 1) x (ii k) = if n ≤ k then g x else if p k = true then F m (x ||| (1 <<< (ii k &&& 31))) (ii (k + 1)) else F m x (ii (k + 1))) (hn : n < 1000) : ∀ m k, k ≤ n → n - k < m → F m (fb p k) (ii k) = g (fb p n) := by
  intro m
  induction m with
  | zero => intro k h1 h2; omega
  | succ m ih =>
    intro k h1 h2
    rw [hF m _ k (by omega)]
    by_cases c : n ≤ k
    · rw [if_pos c, show k = n by omega]
    · rw [if_neg c]
      have e := ih (k + 1) (by omega) (by omega)
      rw [fb] at e
      by_cases d1 : p k = true
      · rw [if_pos d1] at e ⊢; exact e
      · rw [if_neg d1] at e ⊢; exact e
