/-! chains upwards (wip/whole/pure) -/
theorem pigeon : ∀ (N n : Nat) (f : Nat → Int), (∀ i, i ≤ n → 0 ≤ f i ∧ f i < N) → (∀ i j, i < j → j ≤ n → f i ≠ f j) → n < N := by
  intro N
  induction N with
  | zero => intro n f h _; have := h 0 (by omega); omega
  | succ N ih =>
    intro n f h hd
    cases n with
    | zero => omega
    | succ n =>
      have : n < N := by
        refine ih n (fun i => if f i = N then f (n + 1) else f i) (fun i hi => ?_) (fun i j hij hj => ?_)
        · show 0 ≤ (if f i = N then f (n + 1) else f i) ∧ (if f i = N then f (n + 1) else f i) < N
          have h1 := h i (by omega)
          have h2 := h (n + 1) (by omega)
          have h3 := hd i (n + 1) (by omega) (by omega)
          split <;> omega
        · show (if f i = N then f (n + 1) else f i) ≠ (if f j = N then f (n + 1) else f j)
          have h1 := hd i j hij (by omega)
          have h2 := hd i (n + 1) (by omega) (by omega)
          have h3 := hd j (n + 1) (by omega) (by omega)
          split <;> split <;> omega
      omega
/-- n steps up -/
def anc (v : PG) (b : Int) : Nat → Int
  | 0 => b
  | n + 1 => v.2.2.1 (anc v b n) 2
theorem anc_s (v : PG) (b : Int) (n : Nat) : anc v b (n + 1) = anc v (v.2.2.1 b 2) n := by
  induction n with
  | zero => rfl
  | succ n ih => show v.2.2.1 (anc v b (n + 1)) 2 = v.2.2.1 (anc v (v.2.2.1 b 2) n) 2; rw [ih]
/-- a chain of blocks is no longer than the blocks are many -/
theorem anc_lt {v : PG} (W : PW v) {b : Int} {n : Nat} (h : ∀ i, i ≤ n → 0 ≤ anc v b i ∧ anc v b i < v.1) : n < 30 := by
  obtain ⟨wN, -, -, -, rk, wR⟩ := W
  have inc : ∀ i d, i + d + 1 ≤ n → rk (anc v b i) < rk (anc v b (i + d + 1)) := by
    intro i d
    induction d with
    | zero =>
      intro hd
      have h1 := h i (by omega)
      have h2 := h (i + 1) (by omega)
      exact wR _ h1.1 h1.2 (fun e => by have : anc v b (i + 1) = -1 := e; omega)
    | succ d ih =>
      intro hd
      have h0 := ih (by omega)
      have h1 := h (i + d + 1) (by omega)
      have h2 := h (i + d + 1 + 1) (by omega)
      have := wR _ h1.1 h1.2 (fun e => by have : anc v b (i + d + 1 + 1) = -1 := e; omega)
      exact Nat.lt_trans h0 this
  have := pigeon (v.1).toNat n (anc v b) (fun i hi => by have := h i hi; omega) (fun i j hij hj e => by
    have := inc i (j - i - 1) (by omega)
    rw [show i + (j - i - 1) + 1 = j by omega, e] at this
    exact Nat.lt_irrefl _ this)
  omega
/-- above each block there is a first one -/
theorem anc_root {v : PG} (W : PW v) : ∀ (m : Nat) (b : Int) (k : Nat), 0 ≤ b → b < v.1 → (∀ i, i ≤ k → 0 ≤ anc v b i ∧ anc v b i < v.1) → 30 ≤ k + m → ∃ n, k ≤ n ∧ n < 30 ∧ (∀ i, i ≤ n → 0 ≤ anc v b i ∧ anc v b i < v.1) ∧ anc v b (n + 1) = -1 := by
  intro m
  induction m with
  | zero => intro b k b0 b1 h hk; have := anc_lt W h; omega
  | succ m ih =>
    intro b k b0 b1 h hk
    have h1 := h k (Nat.le_refl _)
    have u := W.u h1.1 h1.2
    by_cases q : v.2.2.1 (anc v b k) 2 = -1
    · exact ⟨k, Nat.le_refl _, anc_lt W h, h, q⟩
    · obtain ⟨n, n1, n2⟩ := ih b (k + 1) b0 b1 (fun i hi => by
        by_cases e : i = k + 1
        · subst e; show 0 ≤ v.2.2.1 (anc v b k) 2 ∧ v.2.2.1 (anc v b k) 2 < v.1; omega
        · exact h i (by omega)) (by omega)
      exact ⟨n, by omega, n2⟩
theorem root_ex {v : PG} (W : PW v) {b : Int} (b0 : 0 ≤ b) (b1 : b < v.1) : ∃ n, n < 30 ∧ (∀ i, i ≤ n → 0 ≤ anc v b i ∧ anc v b i < v.1) ∧ anc v b (n + 1) = -1 := by
  obtain ⟨n, -, h⟩ := anc_root W 30 b 0 b0 b1 (fun i hi => by
    have : i = 0 := by omega
    subst this
    exact ⟨b0, b1⟩) (by omega)
  exact ⟨n, h⟩
section CH
variable {p : Nat} {δ : Dl} {v : PG}
/-- isWithin: 1 if other is on the chain above b -/
theorem c_within_l (C : CP p δ v) (W : PW v) {o : Int} (o0 : 0 ≤ o) (o1 : o < v.1) {b0 : Int} : ∀ (m : Nat) (b : Int) (i : Int) (n fu : Nat), (∀ j, j ≤ n → 0 ≤ anc v b j ∧ anc v b j < v.1) → anc v b (n + 1) = -1 → 0 ≤ i → i + n < 30 → n ≤ m → m + 1 < fu →
    F_Pr_isWithin_5 p (zi b0) (zi o) fu (zi b) (zi i) δ = some 1 ∧ (∃ j, j ≤ n ∧ anc v b j = o) ∨ F_Pr_isWithin_5 p (zi b0) (zi o) fu (zi b) (zi i) δ = some 0 ∧ ∀ j, j ≤ n → anc v b j ≠ o := by
  intro m
  have hN := W.1
  induction m with
  | zero =>
    intro b i n fu h hr i0 hi hm hf
    have hn : n = 0 := by omega
    subst hn
    obtain ⟨fu, rfl⟩ : ∃ g, fu = g + 2 := ⟨fu - 2, by omega⟩
    have hb := h 0 (Nat.le_refl _)
    have hb : 0 ≤ b ∧ b < v.1 := hb
    have e := C.2.2.1 b 2 hb.1 hb.2 (by omega) (by omega)
    have hr : v.2.2.1 b 2 = -1 := hr
    rw [show v.2.2.1 b 2 = -1 from hr] at e
    by_cases q : b = o
    · left
      refine ⟨?_, 0, Nat.le_refl _, q⟩
      simp (disch := omega) only [F_Pr_isWithin_5, F_Pr_isWithin_5_b, bnd, bd2, bn2, Option.bind_some, Option.bind_none, C.1, ↓reduceIte, inb, zl, zi_add, zi_sub, zi_mul, zi_neg, zi_le_t, zi_le_f, zi_lt_t, zi_lt_f, zi_eq_t, zi_eq_f, if_true, if_false, ite_true, ite_false, true_and, and_true, false_and, and_false, not_true_eq_false, not_false_eq_true, true_or, or_true, false_or, or_false, and_self, ge_iff_le, gt_iff_lt]
    · right
      refine ⟨?_, fun j hj => ?_⟩
      · simp (disch := omega) only [F_Pr_isWithin_5, F_Pr_isWithin_5_b, bnd, bd2, bn2, Option.bind_some, Option.bind_none, C.1, e, ↓reduceIte, inb, zl, zi_add, zi_sub, zi_mul, zi_neg, zi_le_t, zi_le_f, zi_lt_t, zi_lt_f, zi_eq_t, zi_eq_f, if_true, if_false, ite_true, ite_false, true_and, and_true, false_and, and_false, not_true_eq_false, not_false_eq_true, true_or, or_true, false_or, or_false, and_self, ge_iff_le, gt_iff_lt]
        by_cases c : 30 ≤ i + 1
        · simp (disch := omega) only [↓reduceIte, inb, zl, zi_add, zi_sub, zi_mul, zi_neg, zi_le_t, zi_le_f, zi_lt_t, zi_lt_f, zi_eq_t, zi_eq_f, if_true, if_false, ite_true, ite_false, true_and, and_true, false_and, and_false, not_true_eq_false, not_false_eq_true, true_or, or_true, false_or, or_false, and_self, ge_iff_le, gt_iff_lt]
        · simp (disch := omega) only [↓reduceIte, inb, zl, zi_add, zi_sub, zi_mul, zi_neg, zi_le_t, zi_le_f, zi_lt_t, zi_lt_f, zi_eq_t, zi_eq_f, if_true, if_false, ite_true, ite_false, true_and, and_true, false_and, and_false, not_true_eq_false, not_false_eq_true, true_or, or_true, false_or, or_false, and_self, ge_iff_le, gt_iff_lt]
      · have : j = 0 := by omega
        subst this; exact q
  | succ m ih =>
    intro b i n fu h hr i0 hi hm hf
    obtain ⟨fu, rfl⟩ : ∃ g, fu = g + 1 := ⟨fu - 1, by omega⟩
    have hb := h 0 (Nat.zero_le _)
    have hb : 0 ≤ b ∧ b < v.1 := hb
    have e := C.2.2.1 b 2 hb.1 hb.2 (by omega) (by omega)
    by_cases q : b = o
    · left
      refine ⟨?_, 0, Nat.zero_le _, q⟩
      simp (disch := omega) only [F_Pr_isWithin_5, F_Pr_isWithin_5_b, bnd, bd2, bn2, Option.bind_some, Option.bind_none, C.1, ↓reduceIte, inb, zl, zi_add, zi_sub, zi_mul, zi_neg, zi_le_t, zi_le_f, zi_lt_t, zi_lt_f, zi_eq_t, zi_eq_f, if_true, if_false, ite_true, ite_false, true_and, and_true, false_and, and_false, not_true_eq_false, not_false_eq_true, true_or, or_true, false_or, or_false, and_self, ge_iff_le, gt_iff_lt]
    · cases n with
      | zero =>
        have hr : v.2.2.1 b 2 = -1 := hr
        rw [show v.2.2.1 b 2 = -1 from hr] at e
        obtain ⟨fu, rfl⟩ : ∃ g, fu = g + 1 := ⟨fu - 1, by omega⟩
        right
        refine ⟨?_, fun j hj => ?_⟩
        · simp (disch := omega) only [F_Pr_isWithin_5, F_Pr_isWithin_5_b, bnd, bd2, bn2, Option.bind_some, Option.bind_none, C.1, e, ↓reduceIte, inb, zl, zi_add, zi_sub, zi_mul, zi_neg, zi_le_t, zi_le_f, zi_lt_t, zi_lt_f, zi_eq_t, zi_eq_f, if_true, if_false, ite_true, ite_false, true_and, and_true, false_and, and_false, not_true_eq_false, not_false_eq_true, true_or, or_true, false_or, or_false, and_self, ge_iff_le, gt_iff_lt]
          by_cases c : 30 ≤ i + 1
          · simp (disch := omega) only [↓reduceIte, inb, zl, zi_add, zi_sub, zi_mul, zi_neg, zi_le_t, zi_le_f, zi_lt_t, zi_lt_f, zi_eq_t, zi_eq_f, if_true, if_false, ite_true, ite_false, true_and, and_true, false_and, and_false, not_true_eq_false, not_false_eq_true, true_or, or_true, false_or, or_false, and_self, ge_iff_le, gt_iff_lt]
          · simp (disch := omega) only [↓reduceIte, inb, zl, zi_add, zi_sub, zi_mul, zi_neg, zi_le_t, zi_le_f, zi_lt_t, zi_lt_f, zi_eq_t, zi_eq_f, if_true, if_false, ite_true, ite_false, true_and, and_true, false_and, and_false, not_true_eq_false, not_false_eq_true, true_or, or_true, false_or, or_false, and_self, ge_iff_le, gt_iff_lt]
        · have : j = 0 := by omega
          subst this; exact q
      | succ n =>
        have E : F_Pr_isWithin_5 p (zi b0) (zi o) (fu + 1) (zi b) (zi i) δ = F_Pr_isWithin_5 p (zi b0) (zi o) fu (zi (v.2.2.1 b 2)) (zi (i + 1)) δ := by
          simp (disch := omega) only [F_Pr_isWithin_5, F_Pr_isWithin_5_b, bnd, bd2, bn2, Option.bind_some, Option.bind_none, C.1, e, ↓reduceIte, inb, zl, zi_add, zi_sub, zi_mul, zi_neg, zi_le_t, zi_le_f, zi_lt_t, zi_lt_f, zi_eq_t, zi_eq_f, if_true, if_false, ite_true, ite_false, true_and, and_true, false_and, and_false, not_true_eq_false, not_false_eq_true, true_or, or_true, false_or, or_false, and_self, ge_iff_le, gt_iff_lt]
        rw [E]
        rcases ih (v.2.2.1 b 2) (i + 1) n fu (fun j hj => by rw [← anc_s]; exact h (j + 1) (by omega)) (by rw [← anc_s]; exact hr) (by omega) (by omega) (by omega) (by omega) with ⟨a1, j, a2, a3⟩ | ⟨a1, a2⟩
        · left
          exact ⟨a1, j + 1, by omega, by rw [anc_s]; exact a3⟩
        · right
          refine ⟨a1, fun j hj => ?_⟩
          cases j with
          | zero => exact q
          | succ j => rw [anc_s]; exact a2 j (by omega)
/-- the reference's way to the root -/
theorem m_root_l (C : MP δ v) (W : PW v) {x1 x2 x3 : Int32} : ∀ (n : Nat) (b : Int) (fu : Nat), (∀ j, j ≤ n → 0 ≤ anc v b j ∧ anc v b j < v.1) → anc v b (n + 1) = -1 → n < fu →
    ∃ fu', F_M_join_59 x1 x2 x3 fu (zi b) δ = F_M_join_59 x1 x2 x3 (fu' + 1) (zi (anc v b n)) δ := by
  intro n
  have hN := W.1
  induction n with
  | zero => intro b fu h hr hf; exact ⟨fu - 1, by rw [show fu - 1 + 1 = fu by omega]; rfl⟩
  | succ n ih =>
    intro b fu h hr hf
    obtain ⟨fu, rfl⟩ : ∃ g, fu = g + 1 := ⟨fu - 1, by omega⟩
    have hb := h 0 (Nat.zero_le _)
    have hb : 0 ≤ b ∧ b < v.1 := hb
    have hu := h 1 (by omega)
    have hu : 0 ≤ v.2.2.1 b 2 ∧ v.2.2.1 b 2 < v.1 := hu
    obtain ⟨e0, e1, e2, e3, e4⟩ := C.2.2.1 b hb.1 hb.2
    have E : F_M_join_59 x1 x2 x3 (fu + 1) (zi b) δ = F_M_join_59 x1 x2 x3 fu (zi (v.2.2.1 b 2)) δ := by
      simp (disch := omega) only [F_M_join_59, F_M_join_59_b, e2, ↓reduceIte, inb, zl, zi_add, zi_sub, zi_mul, zi_neg, zi_le_t, zi_le_f, zi_lt_t, zi_lt_f, zi_eq_t, zi_eq_f, if_true, if_false, ite_true, ite_false, true_and, and_true, false_and, and_false, not_true_eq_false, not_false_eq_true, true_or, or_true, false_or, or_false, and_self, ge_iff_le, gt_iff_lt]
    obtain ⟨fu', e⟩ := ih (v.2.2.1 b 2) fu (fun j hj => by rw [← anc_s]; exact h (j + 1) (by omega)) (by rw [← anc_s]; exact hr) (by omega)
    exact ⟨fu', by rw [E, e, anc_s]⟩
end CH
