/-! the letters: what both read -/
def dg (L : Nat → Int32) (t q : Nat) : Bool := decide (q < t) && !decide (sX1_isDigit (L q) = 0)
def nd (L : Nat → Int32) (t : Nat) : Nat → Nat → Nat
  | 0, _ => 0
  | m + 1, q => if dg L t q = true then nd L t m (q + 1) + 1 else 0
def nv (L : Nat → Int32) (t : Nat) : Nat → Nat → Int32 → Int32
  | 0, _, v => v
  | m + 1, q, v => if dg L t q = true then nv L t m (q + 1) (v * 10 + (L q - 48)) else v
def ft (L : Nat → Int32) (t : Nat) (sym : Int32) (q : Nat) : Bool := decide (q < t) && !decide (sX1_fits sym (L q) = 0)
theorem dg_t {L : Nat → Int32} {t q : Nat} : dg L t q = true ↔ q < t ∧ ¬ sX1_isDigit (L q) = 0 := by unfold dg; simp
theorem ft_t {L : Nat → Int32} {t q : Nat} {s : Int32} : ft L t s q = true ↔ q < t ∧ ¬ sX1_fits s (L q) = 0 := by unfold ft; simp
theorem dg_b {L : Nat → Int32} {t q : Nat} (h : dg L t q = true) : q < t ∧ 48 ≤ (L q).toInt ∧ (L q).toInt ≤ 57 := by
  obtain ⟨h1, h2⟩ := dg_t.mp h
  refine ⟨h1, ?_⟩
  unfold sX1_isDigit at h2
  have q57 : (57 : Int32).toInt = 57 := by decide
  by_cases a : L q < 48
  · rw [if_pos a] at h2; exact absurd rfl h2
  · rw [if_neg a] at h2
    by_cases b : 57 < L q
    · rw [if_pos b] at h2; exact absurd rfl h2
    · have a1 := i_nlt a
      have b1 := i_nlt b
      rw [q_48] at a1
      rw [q57] at b1
      exact ⟨a1, b1⟩
theorem nd_le (L : Nat → Int32) (t : Nat) : ∀ m q, nd L t m q ≤ m := by
  intro m
  induction m with
  | zero => intro q; exact Nat.le_refl _
  | succ m ih =>
    intro q
    rw [nd]
    split
    · have := ih (q + 1); omega
    · omega
theorem nd_t (L : Nat → Int32) (t : Nat) : ∀ m q, q ≤ t → q + nd L t m q ≤ t := by
  intro m
  induction m with
  | zero => intro q h; exact h
  | succ m ih =>
    intro q h
    rw [nd]
    split
    · rename_i e
      have := ih (q + 1) (dg_b e).1
      omega
    · omega
theorem nv_step {L : Nat → Int32} {t q : Nat} {v : Int32} {M : Int} (hv : rg v 0 M) (hM : M ≤ 1000) (h : dg L t q = true) : rg (v * 10 + (L q - 48)) 0 (10 * M + 9) := by
  obtain ⟨v1, v2⟩ := hv
  obtain ⟨-, d1, d2⟩ := dg_b h
  have e1 := i_mulr (a := v) (b := 10) q_10 (by omega) (by omega)
  have e2 := i_subr (a := L q) (b := 48) q_48 (by omega) (by omega)
  have e3 := i_add (a := v * 10) (b := L q - 48) (by omega) (by omega)
  exact ⟨by omega, by omega⟩
theorem rg_w {x : Int32} {lo M N : Int} (h : rg x lo M) (h2 : M ≤ N) : rg x lo N := ⟨h.1, by have := h.2; omega⟩
theorem nv1_b (L : Nat → Int32) (t q : Nat) {v : Int32} {M : Int} (hv : rg v 0 M) (hM : M ≤ 1000) (h0 : 0 ≤ M) : rg (nv L t 1 q v) 0 (10 * M + 9) := by
  rw [nv]
  split
  · rename_i h; exact nv_step hv hM h
  · exact rg_w hv (by omega)
theorem nv2_b (L : Nat → Int32) (t q : Nat) {v : Int32} {M : Int} (hv : rg v 0 M) (hM : M ≤ 90) (h0 : 0 ≤ M) : rg (nv L t 2 q v) 0 (100 * M + 99) := by
  rw [nv]
  split
  · rename_i h; exact rg_w (nv1_b L t (q + 1) (nv_step hv (by omega) h) (by omega) (by omega)) (by omega)
  · exact rg_w hv (by omega)
theorem nv3_b (L : Nat → Int32) (t q : Nat) : rg (nv L t 3 q 0) 0 999 := by
  have h0 : rg (0 : Int32) 0 0 := ⟨by decide, by decide⟩
  rw [nv]
  split
  · rename_i h; exact rg_w (nv2_b L t (q + 1) (nv_step h0 (by omega) h) (by omega) (by omega)) (by omega)
  · exact rg_w h0 (by omega)
theorem rg00 : rg (0 : Int32) 0 0 := ⟨by decide, by decide⟩
/-! the reference reads -/
def TP (L : Nat → Int32) (t : Nat) (u : Nat → Nat → Int32) (q : Nat) : Prop := u 16 0 = ii t ∧ u 12 = L ∧ u 17 0 = ii q
theorem e_next {L : Nat → Int32} {t q : Nat} {u : Nat → Nat → Int32} (h : TP L t u q) (ht : t ≤ 96) (hq : q ≤ t) : sX7_next u = if q < t then L q else -1 := by
  obtain ⟨h1, h2, h3⟩ := h
  unfold sX7_next
  rw [h1, h2, h3, ifle (by omega) (by omega), ii_n (by omega)]
  by_cases c : t ≤ q
  · rw [if_pos c, if_neg (by omega)]
  · rw [if_neg c, if_pos (by omega)]
theorem e_isDig (a : Int32) : sX7_isIn a 48 57 = sX1_isDigit a := rfl
theorem e_dgN {L : Nat → Int32} {t q : Nat} : sX1_isDigit (if q < t then L q else -1) = 0 ↔ ¬ dg L t q = true := by
  rw [dg_t]
  by_cases c : q < t
  · rw [if_pos c]; simp [c]
  · rw [if_neg c]
    have e : sX1_isDigit (-1) = 0 := by decide
    simp [c, e]
theorem e_acc (v x : Int32) : 10 * v + x - 48 = v * 10 + (x - 48) := by
  rw [Int32.sub_eq_add_neg, Int32.sub_eq_add_neg, Int32.add_assoc, Int32.mul_comm]
theorem e_num {L : Nat → Int32} {t : Nat} (ht : t ≤ 96) {p least most : Nat} (hp : p < 192) (hl : least ≤ 9) (hmo : most ≤ 3) : ∀ (m f x q : Nat) (v : Int32) (u : Nat → Nat → Int32), x + m = most → m < f → TP L t u q → q ≤ t → (sX7_readsNumber_6 (ii p) (ii least) (ii most) f v (ii x) u).1 = (if x + nd L t m q < least then 0 else 1) ∧ (∀ r, r ≠ 15 → r ≠ 17 → (sX7_readsNumber_6 (ii p) (ii least) (ii most) f v (ii x) u).2 r = u r) ∧ (sX7_readsNumber_6 (ii p) (ii least) (ii most) f v (ii x) u).2 17 0 = ii (q + nd L t m q) ∧ ∀ j, (sX7_readsNumber_6 (ii p) (ii least) (ii most) f v (ii x) u).2 15 j = if j = p then nv L t m q v else u 15 j := by
  have fin : ∀ (x : Nat) (v : Int32) (u : Nat → Nat → Int32) (q : Nat), x ≤ 3 → u 17 0 = ii q → (if ii x < ii least then ((0 : Int32), st u 15 p v) else (1, st u 15 p v)).1 = (if x + 0 < least then 0 else 1) ∧ (∀ r, r ≠ 15 → r ≠ 17 → (if ii x < ii least then ((0 : Int32), st u 15 p v) else (1, st u 15 p v)).2 r = u r) ∧ (if ii x < ii least then ((0 : Int32), st u 15 p v) else (1, st u 15 p v)).2 17 0 = ii (q + 0) ∧ ∀ j, (if ii x < ii least then ((0 : Int32), st u 15 p v) else (1, st u 15 p v)).2 15 j = if j = p then v else u 15 j := fun x v u q hx h17 => by
    have e2 : (if ii x < ii least then ((0 : Int32), st u 15 p v) else (1, st u 15 p v)).2 = st u 15 p v := by split <;> rfl
    rw [e2]
    refine ⟨?_, fun r a _ => st_o a, by rw [st_o (by decide), h17, Nat.add_zero], fun j => by rw [st_s]; rfl⟩
    by_cases c : x < least
    · rw [if_pos ((ii_lt (by omega) (by omega)).mpr c), if_pos (by omega)]
    · rw [if_neg (fun z => c ((ii_lt (by omega) (by omega)).mp z)), if_neg (by omega)]
  intro m
  induction m with
  | zero =>
    intro f x q v u hx hf hT hq
    cases f with
    | zero => omega
    | succ f =>
      rw [sX7_readsNumber_6, ifle (by omega) (by omega), if_pos (show most ≤ x by omega), ii_n (by omega)]
      simp only [bns]
      exact fin x v u q (by omega) hT.2.2
  | succ m ih =>
    intro f x q v u hx hf hT hq
    cases f with
    | zero => omega
    | succ f =>
      rw [sX7_readsNumber_6, ifle (by omega) (by omega), if_neg (show ¬ most ≤ x by omega), ii_n (by omega), e_isDig, e_next hT ht hq, nd, nv]
      simp only [bns]
      by_cases c : dg L t q = true
      · have cq := (dg_b c).1
        rw [if_neg (fun z => (e_dgN.mp z) c), if_pos c, if_pos c, if_pos cq, hT.2.2, ii_s, ii_s, e_acc]
        obtain ⟨g1, g2, g3, g4⟩ := ih f (x + 1) (q + 1) (v * 10 + (L q - 48)) (st u 17 0 (ii (q + 1))) (by omega) (by omega) ⟨by rw [st_o (by decide)]; exact hT.1, by rw [st_o (by decide)]; exact hT.2.1, st_rd⟩ (by omega)
        refine ⟨by rw [g1, show x + 1 + nd L t m (q + 1) = x + (nd L t m (q + 1) + 1) by omega], fun r a b => by rw [g2 r a b, st_o b], by rw [g3, show q + 1 + nd L t m (q + 1) = q + (nd L t m (q + 1) + 1) by omega], fun j => by rw [g4 j, st_o (show ¬ 15 = 17 by decide)]⟩
      · rw [if_pos (e_dgN.mpr c), if_neg c, if_neg c]
        exact fin x v u q (by omega) hT.2.2
theorem RN {L : Nat → Int32} {t : Nat} (ht : t ≤ 96) {p least most q : Nat} (hp : p < 192) (hl : least ≤ 9) (hmo : most ≤ 3) {u : Nat → Nat → Int32} (hT : TP L t u q) (hq : q ≤ t) : ∃ U, sX7_readsNumber u (ii p) (ii least) (ii most) = ((if nd L t most q < least then 0 else 1), U) ∧ (∀ r, r ≠ 15 → r ≠ 17 → U r = u r) ∧ TP L t U (q + nd L t most q) ∧ ∀ j, U 15 j = if j = p then nv L t most q 0 else u 15 j := by
  obtain ⟨g1, g2, g3, g4⟩ := e_num ht hp hl hmo most 97 0 q 0 u (by omega) (by omega) hT hq
  have e0 : sX7_readsNumber u (ii p) (ii least) (ii most) = sX7_readsNumber_6 (ii p) (ii least) (ii most) 97 0 (ii 0) u := rfl
  rw [Nat.zero_add] at g1
  refine ⟨_, ?_, g2, ⟨by rw [g2 16 (by decide) (by decide)]; exact hT.1, by rw [g2 12 (by decide) (by decide)]; exact hT.2.1, g3⟩, g4⟩
  rw [e0, ← g1]
/-! the class reads -/
def LV (L : Nat → Int32) (t : Nat) (v : Nat → Nat → Int32) : Prop := v 1 0 = ii t ∧ ∀ j, j < t → v 0 j = L j
theorem e_at {L : Nat → Int32} {t q : Nat} {v : Nat → Nat → Int32} (h : LV L t v) (ht : t ≤ 96) (hq : q < 1000) : sX1_at v (ii q) = if q < t then L q else 0 := by
  unfold sX1_at
  rw [if_neg (ii_nn (by omega)), h.1, ifle (by omega) (by omega), ii_n (by omega)]
  by_cases c : t ≤ q
  · rw [if_pos c, if_neg (by omega)]
  · rw [if_neg c, if_pos (by omega), h.2 q (by omega)]
theorem e_dg0 {L : Nat → Int32} {t q : Nat} : sX1_isDigit (if q < t then L q else 0) = 0 ↔ ¬ dg L t q = true := by
  rw [dg_t]
  by_cases c : q < t
  · rw [if_pos c]; simp [c]
  · rw [if_neg c]
    have e : sX1_isDigit 0 = 0 := by decide
    simp [c, e]
theorem e_digit' {L : Nat → Int32} {t q : Nat} {v : Nat → Nat → Int32} (h : LV L t v) (ht : t ≤ 96) (hq : q < 1000) : sX1_digit v (ii q) = if dg L t q = true then L q - 48 else 0 := by
  unfold sX1_digit
  rw [e_at h ht hq]
  by_cases c : dg L t q = true
  · rw [if_neg (fun z => e_dg0.mp z c), if_pos c, if_pos (dg_b c).1]
  · rw [if_pos (e_dg0.mpr c), if_neg c]
theorem e_digit {L : Nat → Int32} {t q : Nat} {v : Nat → Nat → Int32} (h : LV L t v) (ht : t ≤ 96) (hq : q < 1000) : sX1_digit v (ii q) = nv L t 1 q 0 := by
  rw [e_digit' h ht hq, nv, nv, Int32.zero_mul, Int32.zero_add]
theorem e_number5 {L : Nat → Int32} {t : Nat} {v : Nat → Nat → Int32} (h : LV L t v) (ht : t ≤ 96) {q most : Nat} (hq : q < 900) (hmo : most ≤ 3) : ∀ (m f x : Nat) (z : Int32), x + m = most → m < f → sX1_number_5 v (ii q) (ii most) f z (ii x) = nv L t m (q + x) z := by
  intro m
  induction m with
  | zero =>
    intro f x z hx hf
    cases f with
    | zero => omega
    | succ f => rw [sX1_number_5, ifle (by omega) (by omega), if_pos (show most ≤ x by omega), nv]
  | succ m ih =>
    intro f x z hx hf
    cases f with
    | zero => omega
    | succ f =>
      rw [sX1_number_5, ifle (by omega) (by omega), if_neg (show ¬ most ≤ x by omega), ii_a, e_at h ht (by omega), e_digit' h ht (by omega), ii_s, nv]
      by_cases c : dg L t (q + x) = true
      · rw [if_neg (fun y => e_dg0.mp y c), if_pos c, if_pos c]
        exact ih f (x + 1) _ (by omega) (by omega)
      · rw [if_pos (e_dg0.mpr c), if_neg c]
theorem e_number {L : Nat → Int32} {t : Nat} {v : Nat → Nat → Int32} (h : LV L t v) (ht : t ≤ 96) {q most : Nat} (hq : q < 900) (hmo : most ≤ 3) : sX1_number v (ii q) (ii most) = nv L t most q 0 := e_number5 h ht hq hmo most 4 0 0 (by omega) (by omega)
/-! the class's forms -/
theorem e_len : ∀ f, f < 9 → sJ0_length_8abf5 f = ii (lenS.getD f 0) := by decide
theorem len_7 : ∀ f, f < 9 → lenS.getD f 0 ≤ 7 := by decide
theorem e_sb {f s : Nat} {sym c : Int32} (hf : f < 9) (hs : s < lenS.getD f 0) (hsym : sJ0_charAt_5068e f (ii s) = sym) (h63 : ¬ sym = 63) (m : Nat) : sX1_stepBehind_2 f c (m + 1) (ii s) = if sX1_fits sym c = 0 then -1 else ii (s + 1) := by
  have h7 := len_7 f hf
  rw [sX1_stepBehind_2, e_len f hf, ifle (by omega) (by omega), if_neg (by omega), hsym, if_neg h63, ii_s]
theorem r_step {L : Nat → Int32} {t : Nat} {v : Nat → Nat → Int32} (h : LV L t v) (ht : t ≤ 96) {f s q : Nat} {sym : Int32} (hf : f < 9) (hs : s < lenS.getD f 0) (hq : q ≤ t) (hsym : sJ0_charAt_5068e f (ii s) = sym) (h63 : ¬ sym = 63) (m : Nat) : sX1_firstOutOfForm_16 v (m + 1) f (ii s) (ii q) = if ft L t sym q = true then sX1_firstOutOfForm_16 v m f (ii (s + 1)) (ii (q + 1)) else ii q := by
  have h7 := len_7 f hf
  rw [sX1_firstOutOfForm_16, h.1, ifle (by omega) (by omega), e_len f hf, ifle (by omega) (by omega), e_at h ht (by omega), if_neg (show ¬ lenS.getD f 0 ≤ s by omega)]
  by_cases c : t ≤ q
  · have e : q = t := by omega
    rw [if_pos c, if_neg (fun z => by have := (ft_t.mp z).1; omega), e]
  · unfold sX1_stepBehind
    rw [if_neg c, if_pos ((ii_lt (by omega) (by omega)).mpr hs), if_pos (show q < t by omega), e_sb hf hs hsym h63, ii_s]
    by_cases d : sX1_fits sym (L q) = 0
    · rw [if_pos d, if_neg (show ¬ (0 : Int32) ≤ -1 by decide), if_neg (fun z => (ft_t.mp z).2 d)]
    · rw [if_neg d, if_pos (ii_0le (k := s + 1) (by omega)), if_pos (ft_t.mpr ⟨by omega, d⟩)]
theorem r_start {L : Nat → Int32} {t : Nat} {v : Nat → Nat → Int32} (h : LV L t v) (ht : t ≤ 96) {f s q : Nat} (hf : f < 9) (hs : lenS.getD f 0 ≤ s) (hs2 : s ≤ 7) (hq : q ≤ t) (m : Nat) : sX1_firstOutOfForm_16 v (m + 1) f (ii s) (ii q) = if q < t then (if (sJ0_isEmpty_aae02 (sX1_formBehind (L q))) = 0 then sX1_firstOutOfForm_16 v m (sX1_formBehind (L q)) (ii 0) (ii (q + 1)) else ii q) else -1 := by
  have h7 := len_7 f hf
  rw [sX1_firstOutOfForm_16, h.1, ifle (by omega) (by omega), e_len f hf, ifle (by omega) (by omega), e_at h ht (by omega), if_pos hs, ii_s]
  by_cases c : t ≤ q
  · rw [if_pos c, if_neg (by omega)]
  · rw [if_neg c, if_neg (fun z => by have := (ii_lt (by omega) (by omega)).mp z; omega), if_pos (show q < t by omega), if_pos (show q < t by omega)]
    rfl
theorem r7_1 {L : Nat → Int32} {t : Nat} {v : Nat → Nat → Int32} (h : LV L t v) (ht : t ≤ 96) {s q : Nat} (hs : s = 1 ∨ s = 2) (hq : q ≤ t) (m : Nat) : sX1_firstOutOfForm_16 v (m + 1) 7 (ii s) (ii q) = if dg L t q = true then sX1_firstOutOfForm_16 v m 7 (ii (s + 1)) (ii (q + 1)) else if ft L t 59 q = true then sX1_firstOutOfForm_16 v m 7 (ii 4) (ii (q + 1)) else ii q := by
  have e4 : lenS.getD 7 0 = 4 := rfl
  have c1 : sJ0_charAt_5068e 7 (ii 1) = 63 := by decide
  have c2 : sJ0_charAt_5068e 7 (ii 2) = 63 := by decide
  have c3 : sJ0_charAt_5068e 7 (ii 3) = 59 := by decide
  have e63 : ∀ c, sX1_fits 63 c = sX1_isDigit c := fun c => by
    unfold sX1_fits
    rw [if_neg (by decide), if_neg (by decide), if_pos rfl]
  have k3 : ∀ c n, sX1_stepBehind_2 7 c (n + 1) (ii 3) = if sX1_fits 59 c = 0 then -1 else ii 4 := fun c n => e_sb (by omega) (by rw [e4]; omega) c3 (by decide) n
  have k2 : ∀ c n, sX1_stepBehind_2 7 c (n + 1 + 1) (ii 2) = if sX1_isDigit c = 0 then (if sX1_fits 59 c = 0 then -1 else ii 4) else ii 3 := fun c n => by
    rw [sX1_stepBehind_2, e_len 7 (by omega), e4, ifle (by omega) (by omega), if_neg (show ¬ 4 ≤ 2 by omega), c2, e63, if_pos rfl, ii_s, k3]
  have k1 : ∀ c n, sX1_stepBehind_2 7 c (n + 1 + 1 + 1) (ii 1) = if sX1_isDigit c = 0 then (if sX1_fits 59 c = 0 then -1 else ii 4) else ii 2 := fun c n => by
    rw [sX1_stepBehind_2, e_len 7 (by omega), e4, ifle (by omega) (by omega), if_neg (show ¬ 4 ≤ 1 by omega), c1, e63, if_pos rfl, ii_s, k2]
    by_cases z : sX1_isDigit c = 0
    · rw [if_pos z, if_pos z, if_pos z]
    · rw [if_neg z, if_neg z]
  have kk : ∀ c, sX1_stepBehind 7 (ii s) c = if sX1_isDigit c = 0 then (if sX1_fits 59 c = 0 then -1 else ii 4) else ii (s + 1) := fun c => by
    rcases hs with rfl | rfl
    · exact k1 c 6
    · exact k2 c 7
  have hs4 : s < 4 := by omega
  rw [sX1_firstOutOfForm_16, h.1, ifle (by omega) (by omega), e_len 7 (by omega), e4, ifle (by omega) (by omega), e_at h ht (by omega), if_neg (show ¬ 4 ≤ s by omega), kk, ii_s]
  by_cases c : t ≤ q
  · have e : q = t := by omega
    rw [if_pos c, if_neg (fun z => by have := (dg_t.mp z).1; omega), if_neg (fun z => by have := (ft_t.mp z).1; omega), e]
  · rw [if_neg c, if_pos ((ii_lt (by omega) (by omega)).mpr hs4), if_pos (show q < t by omega)]
    by_cases d : sX1_isDigit (L q) = 0
    · rw [if_pos d, if_neg (fun z => (dg_t.mp z).2 d)]
      by_cases e : sX1_fits 59 (L q) = 0
      · rw [if_pos e, if_neg (show ¬ (0 : Int32) ≤ -1 by decide), if_neg (fun z => (ft_t.mp z).2 e)]
      · rw [if_neg e, if_pos (ii_0le (k := 4) (by omega)), if_pos (ft_t.mpr ⟨by omega, e⟩)]
    · rw [if_neg d, if_pos (ii_0le (k := s + 1) (by omega)), if_pos (dg_t.mpr ⟨by omega, d⟩)]
