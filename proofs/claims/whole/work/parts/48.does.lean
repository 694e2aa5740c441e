/-! what an order does: both sides alike (wip/whole/pure) -/
theorem sA_sI {δ : Dl} {f a g b : Nat} {x i u : Int32} : sA (sI δ f a x) g b i u = sI (sA δ g b i u) f a x := rfl
theorem sW_sI {δ : Dl} {f a g b : Nat} {x : Int32} {row : Int32 → Int32} : sW (sI δ f a x) g b row = sI (sW δ g b row) f a x := rfl
theorem sI_comm {δ : Dl} {f a g b : Nat} {x y : Int32} (h : f ≠ g) : sI (sI δ f a x) g b y = sI (sI δ g b y) f a x := by
  show (_, _) = (_, _)
  congr 1
  funext g' b'
  show (if g' = g ∧ b' = b then y else if g' = f ∧ b' = a then x else δ.1 g' b') = if g' = f ∧ b' = a then x else if g' = g ∧ b' = b then y else δ.1 g' b'
  by_cases h1 : g' = g ∧ b' = b
  · rw [if_pos h1, if_neg (fun e => h (e.1.symm.trans h1.1)), if_pos h1]
  · rw [if_neg h1, if_neg h1]
theorem sA_id {δ : Dl} {f a : Nat} {i : Int32} : sA δ f a i (δ.2.1 f a i) = δ := by
  show (_, _, _) = _
  have : (fun g b => if g = f ∧ b = a then (fun j => if j = i then δ.2.1 f a i else δ.2.1 f a j) else δ.2.1 g b) = δ.2.1 := by
    funext g b
    by_cases h : g = f ∧ b = a
    · rw [if_pos h, h.1, h.2]
      funext j
      by_cases hj : j = i
      · rw [if_pos hj, hj]
      · rw [if_neg hj]
    · rw [if_neg h]
  rw [this]
theorem sW_sA {δ : Dl} {f a : Nat} {i u : Int32} {row : Int32 → Int32} : sW (sA δ f a i u) f a row = sW δ f a row := by
  have : (fun g b => if g = f ∧ b = a then row else (sA δ f a i u).2.1 g b) = (fun g b => if g = f ∧ b = a then row else δ.2.1 g b) := by
    funext g b
    by_cases h : g = f ∧ b = a
    · rw [if_pos h, if_pos h]
    · rw [if_neg h, if_neg h]
      show (if g = f ∧ b = a then _ else δ.2.1 g b) = _
      rw [if_neg h]
  unfold sW
  rw [this]
  rfl
theorem sW_id {δ : Dl} {f a : Nat} : sW δ f a (δ.2.1 f a) = δ := by
  show (_, _, _) = _
  have : (fun g b => if g = f ∧ b = a then δ.2.1 f a else δ.2.1 g b) = δ.2.1 := by
    funext g b
    by_cases h : g = f ∧ b = a
    · rw [if_pos h, h.1, h.2]
    · rw [if_neg h]
  rw [this]
theorem rW {δ : Dl} {f a g b : Nat} {row : Int32 → Int32} (h : ¬ g = f) : (sW δ f a row).2.1 g b = δ.2.1 g b := if_neg (fun e => h e.1)
theorem rWi {δ : Dl} {f a : Nat} {row : Int32 → Int32} : (sW δ f a row).2.1 f a = row := if_pos ⟨rfl, rfl⟩
/-- a run of a row set to one value -/
def fr1 (old : Int32 → Int32) (lo hi : Int) (u : Int32) : Int32 → Int32 := fun j => if zi lo ≤ j ∧ j < zi hi then u else old j
theorem fr1_in {old : Int32 → Int32} {lo hi j : Int} {u : Int32} (h : -2147483648 ≤ lo ∧ lo ≤ j ∧ j < hi ∧ hi < 2147483648) : fr1 old lo hi u (zi j) = u :=
  if_pos ⟨by rw [zi_le (by omega) (by omega)]; omega, by rw [zi_lt (by omega) (by omega)]; omega⟩
theorem fr1_out {old : Int32 → Int32} {lo hi j : Int} {u : Int32} (h : (-2147483648 ≤ lo ∧ lo < 2147483648) ∧ (-2147483648 ≤ hi ∧ hi < 2147483648) ∧ (-2147483648 ≤ j ∧ j < 2147483648) ∧ ¬ (lo ≤ j ∧ j < hi)) : fr1 old lo hi u (zi j) = old (zi j) :=
  if_neg (fun e => by rw [zi_le h.1 h.2.2.1, zi_lt h.2.2.1 h.2.1] at e; exact h.2.2.2 e)
theorem fr1_step {δ : Dl} {f a : Nat} {i hi : Int} {u : Int32} (h : -2147483648 ≤ i ∧ i < hi ∧ hi < 2147483648) : sW (sA δ f a (zi i) u) f a (fr1 ((sA δ f a (zi i) u).2.1 f a) (i + 1) hi u) = sW δ f a (fr1 (δ.2.1 f a) i hi u) := by
  rw [sW_sA]
  congr 1
  funext j
  obtain ⟨j, rfl, hj⟩ := zi_ex j
  by_cases q : i ≤ j ∧ j < hi
  · have e1 : fr1 (δ.2.1 f a) i hi u (zi j) = u := fr1_in (by omega)
    rw [e1]
    by_cases q2 : j = i
    · rw [fr1_out (by omega), rAi, if_pos (by rw [q2])]
    · rw [fr1_in (by omega)]
  · rw [fr1_out (by omega), fr1_out (by omega), rAi, if_neg (fun e => q (by have := zi_inj e (by omega) (by omega); omega))]
theorem fr1_done {δ : Dl} {f a : Nat} {i : Int} {u : Int32} (h : -2147483648 ≤ i ∧ i < 2147483648) : sW δ f a (fr1 (δ.2.1 f a) i i u) = δ := by
  have : fr1 (δ.2.1 f a) i i u = δ.2.1 f a := by
    funext j
    obtain ⟨j, rfl, hj⟩ := zi_ex j
    rw [fr1_out (by omega)]
  rw [this, sW_id]
theorem fill4_l {f a : Nat} {N hi : Int} {x1 u : Int32} (hN : 0 ≤ N ∧ N < 2147483648) (h2 : hi ≤ N) : ∀ (n : Nat) (i : Int) (fu : Nat) (δ : Dl), 0 ≤ i → i ≤ hi → (hi - i).toNat ≤ n → n < fu → F_Ar_fill4_10 f a (zi N) x1 (zi hi) u fu (zi i) δ = some (sW δ f a (fr1 (δ.2.1 f a) i hi u)) := by
  intro n
  induction n with
  | zero =>
    intro i fu δ i0 i1 hn hf
    obtain ⟨fu, rfl⟩ : ∃ q, fu = q + 1 := ⟨fu - 1, by omega⟩
    have : i = hi := by omega
    subst this
    rw [fr1_done (by omega)]
    simp (disch := omega) only [F_Ar_fill4_10, F_Ar_fill4_10_b, ↓bnd_eq, bd2, bn2, Option.bind_some, Option.bind_none, ↓reduceIte, inb, zl, zi_add, zi_sub, zi_mul, zi_neg, zi_le_t, zi_le_f, zi_lt_t, zi_lt_f, zi_eq_t, zi_eq_f, if_true, if_false, ite_true, ite_false, true_and, and_true, false_and, and_false, not_true_eq_false, not_false_eq_true, true_or, or_true, false_or, or_false, and_self, ge_iff_le, gt_iff_lt]
  | succ n ih =>
    intro i fu δ i0 i1 hn hf
    obtain ⟨fu, rfl⟩ : ∃ q, fu = q + 1 := ⟨fu - 1, by omega⟩
    by_cases q : i = hi
    · subst q
      rw [fr1_done (by omega)]
      simp (disch := omega) only [F_Ar_fill4_10, F_Ar_fill4_10_b, ↓bnd_eq, bd2, bn2, Option.bind_some, Option.bind_none, ↓reduceIte, inb, zl, zi_add, zi_sub, zi_mul, zi_neg, zi_le_t, zi_le_f, zi_lt_t, zi_lt_f, zi_eq_t, zi_eq_f, if_true, if_false, ite_true, ite_false, true_and, and_true, false_and, and_false, not_true_eq_false, not_false_eq_true, true_or, or_true, false_or, or_false, and_self, ge_iff_le, gt_iff_lt]
    · have e := ih (i + 1) fu (sA δ f a (zi i) u) (by omega) (by omega) (by omega) (by omega)
      rw [fr1_step (by omega)] at e
      rw [← e]
      simp (disch := omega) only [F_Ar_fill4_10, F_Ar_fill4_10_b, ↓bnd_eq, bd2, bn2, Option.bind_some, Option.bind_none, ↓reduceIte, inb, zl, zi_add, zi_sub, zi_mul, zi_neg, zi_le_t, zi_le_f, zi_lt_t, zi_lt_f, zi_eq_t, zi_eq_f, if_true, if_false, ite_true, ite_false, true_and, and_true, false_and, and_false, not_true_eq_false, not_false_eq_true, true_or, or_true, false_or, or_false, and_self, ge_iff_le, gt_iff_lt]
theorem fill4 {f a : Nat} {N lo hi : Int} {u : Int32} {δ : Dl} (hN : 0 ≤ N ∧ N < 90000) (h0 : 0 ≤ lo) (h1 : lo ≤ hi) (h2 : hi ≤ N) : F_Ar_fill4 f a (zi N) (zi lo) (zi hi) u δ = some (sW δ f a (fr1 (δ.2.1 f a) lo hi u)) := by
  have e := fill4_l (f := f) (a := a) (N := N) (hi := hi) (x1 := zi lo) (u := u) (by omega) h2 (hi - lo).toNat lo FU δ h0 h1 (Nat.le_refl _) (by unfold FU; omega)
  simp (disch := omega) only [F_Ar_fill4, F_Ar_rangeCheck, ↓bnd_eq, bd2, bn2, Option.bind_some, Option.bind_none, e, ↓reduceIte, inb, zl, zi_add, zi_sub, zi_mul, zi_neg, zi_le_t, zi_le_f, zi_lt_t, zi_lt_f, zi_eq_t, zi_eq_f, if_true, if_false, ite_true, ite_false, true_and, and_true, false_and, and_false, not_true_eq_false, not_false_eq_true, true_or, or_true, false_or, or_false, and_self, ge_iff_le, gt_iff_lt]
theorem fill2_l {f a : Nat} {N : Int} {u : Int32} (hN : 0 ≤ N ∧ N < 2147483648) : ∀ (n : Nat) (i : Int) (fu : Nat) (δ : Dl), 0 ≤ i → i ≤ N → (N - i).toNat ≤ n → n < fu → F_Ar_fill2_5 f a (zi N) u fu (zi i) (zi N) δ = some (sW δ f a (fr1 (δ.2.1 f a) i N u)) := by
  intro n
  induction n with
  | zero =>
    intro i fu δ i0 i1 hn hf
    obtain ⟨fu, rfl⟩ : ∃ q, fu = q + 1 := ⟨fu - 1, by omega⟩
    have : i = N := by omega
    subst this
    rw [fr1_done (by omega)]
    simp (disch := omega) only [F_Ar_fill2_5, F_Ar_fill2_5_b, ↓bnd_eq, bd2, bn2, Option.bind_some, Option.bind_none, ↓reduceIte, inb, zl, zi_add, zi_sub, zi_mul, zi_neg, zi_le_t, zi_le_f, zi_lt_t, zi_lt_f, zi_eq_t, zi_eq_f, if_true, if_false, ite_true, ite_false, true_and, and_true, false_and, and_false, not_true_eq_false, not_false_eq_true, true_or, or_true, false_or, or_false, and_self, ge_iff_le, gt_iff_lt]
  | succ n ih =>
    intro i fu δ i0 i1 hn hf
    obtain ⟨fu, rfl⟩ : ∃ q, fu = q + 1 := ⟨fu - 1, by omega⟩
    by_cases q : i = N
    · subst q
      rw [fr1_done (by omega)]
      simp (disch := omega) only [F_Ar_fill2_5, F_Ar_fill2_5_b, ↓bnd_eq, bd2, bn2, Option.bind_some, Option.bind_none, ↓reduceIte, inb, zl, zi_add, zi_sub, zi_mul, zi_neg, zi_le_t, zi_le_f, zi_lt_t, zi_lt_f, zi_eq_t, zi_eq_f, if_true, if_false, ite_true, ite_false, true_and, and_true, false_and, and_false, not_true_eq_false, not_false_eq_true, true_or, or_true, false_or, or_false, and_self, ge_iff_le, gt_iff_lt]
    · have e := ih (i + 1) fu (sA δ f a (zi i) u) (by omega) (by omega) (by omega) (by omega)
      rw [fr1_step (by omega)] at e
      rw [← e]
      simp (disch := omega) only [F_Ar_fill2_5, F_Ar_fill2_5_b, ↓bnd_eq, bd2, bn2, Option.bind_some, Option.bind_none, ↓reduceIte, inb, zl, zi_add, zi_sub, zi_mul, zi_neg, zi_le_t, zi_le_f, zi_lt_t, zi_lt_f, zi_eq_t, zi_eq_f, if_true, if_false, ite_true, ite_false, true_and, and_true, false_and, and_false, not_true_eq_false, not_false_eq_true, true_or, or_true, false_or, or_false, and_self, ge_iff_le, gt_iff_lt]
theorem fill2 {f a : Nat} {N : Int} {u : Int32} {δ : Dl} (hN : 0 ≤ N ∧ N < 90000) : F_Ar_fill2 f a (zi N) u δ = some (sW δ f a (fr1 (δ.2.1 f a) 0 N u)) := by
  have e := fill2_l (f := f) (a := a) (N := N) (u := u) (by omega) N.toNat 0 FU δ (by omega) (by omega) (by omega) (by unfold FU; omega)
  have z0 : (0 : Int32) = zi 0 := zl 0
  unfold F_Ar_fill2
  rw [z0]
  exact e
theorem makes_l {i : Int} {x2 : Int32} (hi : 0 ≤ i ∧ i < 3) : ∀ (n : Nat) (j : Int) (fu : Nat) (δ : Dl), 0 ≤ j → j ≤ 20 → (20 - j).toNat ≤ n → n < fu → F_M_makes_31 (zi i) x2 fu (zi j) δ = some (sW δ 140 23 (fr1 (δ.2.1 140 23) (20 * i + j) (20 * i + 20) (zi 0))) := by
  intro n
  induction n with
  | zero =>
    intro j fu δ i0 i1 hn hf
    obtain ⟨fu, rfl⟩ : ∃ q, fu = q + 1 := ⟨fu - 1, by omega⟩
    have : j = 20 := by omega
    subst this
    rw [fr1_done (by omega)]
    simp (disch := omega) only [F_M_makes_31, F_M_makes_31_b, ↓bnd_eq, bd2, bn2, Option.bind_some, Option.bind_none, ↓reduceIte, inb, zl, zi_add, zi_sub, zi_mul, zi_neg, zi_le_t, zi_le_f, zi_lt_t, zi_lt_f, zi_eq_t, zi_eq_f, if_true, if_false, ite_true, ite_false, true_and, and_true, false_and, and_false, not_true_eq_false, not_false_eq_true, true_or, or_true, false_or, or_false, and_self, ge_iff_le, gt_iff_lt]
  | succ n ih =>
    intro j fu δ i0 i1 hn hf
    obtain ⟨fu, rfl⟩ : ∃ q, fu = q + 1 := ⟨fu - 1, by omega⟩
    by_cases q : j = 20
    · subst q
      rw [fr1_done (by omega)]
      simp (disch := omega) only [F_M_makes_31, F_M_makes_31_b, ↓bnd_eq, bd2, bn2, Option.bind_some, Option.bind_none, ↓reduceIte, inb, zl, zi_add, zi_sub, zi_mul, zi_neg, zi_le_t, zi_le_f, zi_lt_t, zi_lt_f, zi_eq_t, zi_eq_f, if_true, if_false, ite_true, ite_false, true_and, and_true, false_and, and_false, not_true_eq_false, not_false_eq_true, true_or, or_true, false_or, or_false, and_self, ge_iff_le, gt_iff_lt]
    · have e := ih (j + 1) fu (sA δ 140 23 (zi (20 * i + j)) (zi 0)) (by omega) (by omega) (by omega) (by omega)
      rw [show 20 * i + (j + 1) = 20 * i + j + 1 by omega, fr1_step (by omega)] at e
      rw [← e]
      simp (disch := omega) only [F_M_makes_31, F_M_makes_31_b, ↓bnd_eq, bd2, bn2, Option.bind_some, Option.bind_none, ↓reduceIte, inb, zl, zi_add, zi_sub, zi_mul, zi_neg, zi_le_t, zi_le_f, zi_lt_t, zi_lt_f, zi_eq_t, zi_eq_f, if_true, if_false, ite_true, ite_false, true_and, and_true, false_and, and_false, not_true_eq_false, not_false_eq_true, true_or, or_true, false_or, or_false, and_self, ge_iff_le, gt_iff_lt]
/-! the run's own words -/
def TE (a : Nat) (δc δm : Dl) : Int → Prop := fun b => ∃ t : Int, (0 ≤ t ∧ t ≤ 99) ∧ δc.2.1 50 a (zi b) = zi t ∧ δm.2.1 144 23 (zi b) = zi t
def SCR (a : Nat) (v : PG) (g : SG) (δc δm : Dl) (s : Int) : Prop :=
  ∃ st : Int, (0 ≤ st ∧ st ≤ 2) ∧ δc.2.1 46 a (zi s) = zi st ∧ δm.2.1 141 23 (zi s) = zi st ∧ δc.2.1 47 a (zi s) = δm.2.1 142 23 (zi s) ∧ δc.2.1 49 a (zi s) = δm.2.1 143 23 (zi s) ∧
  (st = 1 → s < v.2.1 ∧ v.2.2.2.2 s 0 < g.2.2.1 ∧ ∃ b f : Int, (0 ≤ b ∧ b < v.1) ∧ v.2.2.1 b 0 ≤ 12 ∧ δc.2.1 47 a (zi s) = zi b ∧ δc.2.1 48 a (zi s) = zi f ∧ δm.2.1 145 23 (zi s) = zi f ∧ (f = 0 ∨ f = 1) ∧ (f = 0 → v.2.2.1 b 0 = 10 → TE a δc δm b) ∧ ∃ S, S b ∧ Cl v (TE a δc δm) S)
def RSC (a : Nat) (v : PG) (g : SG) (δc δm : Dl) : Prop := ∀ s, 0 ≤ s → s < 6 → SCR a v g δc δm s
def RY (a : Nat) (t Q : Int) (δc δm : Dl) : Prop := ∃ q : Int, (0 ≤ q ∧ q ≤ Q) ∧ δc.1 43 a = zi t ∧ δm.1 132 23 = zi t ∧ δc.1 44 a = zi q ∧ δm.1 148 23 = zi q ∧
  (∀ i, 0 ≤ i → i < q → i < 50 → δc.2.1 45 a (zi (i * 3)) = δm.2.1 149 23 (zi i) ∧ δc.2.1 45 a (zi (i * 3 + 1)) = δm.2.1 150 23 (zi i) ∧ δc.2.1 45 a (zi (i * 3 + 2)) = δm.2.1 151 23 (zi i))
def bI (m c : Int) : Int32 := (zi m >>> zi c) &&& zi 1
def RT (a : Nat) (δc δm : Dl) : Prop := ∃ m n : Int, (0 ≤ m ∧ m < 16) ∧ (0 ≤ n ∧ n < 16) ∧ δc.1 51 a = zi m ∧ δc.1 52 a = zi n ∧ ∀ c, 0 ≤ c → c < 4 → δm.2.1 146 23 (zi c) = bI m c ∧ δm.2.1 147 23 (zi c) = bI n c
abbrev SDc (a s : Nat) : Nat → Nat → Prop := fun g b => (b = s ∧ 73 ≤ g ∧ g ≤ 79) ∨ (b = a ∧ (g = 44 ∨ g = 45 ∨ g = 51))
abbrev SGc (s : Nat) : Nat → Nat → Prop := fun g b => b = s ∧ 73 ≤ g ∧ g ≤ 79
abbrev SGm : Nat → Nat → Prop := fun g _ => 133 ≤ g ∧ g ≤ 140
abbrev SDm : Nat → Nat → Prop := fun g _ => (133 ≤ g ∧ g ≤ 140) ∨ g = 146 ∨ (148 ≤ g ∧ g ≤ 151)
theorem bI_dec : ∀ m : Nat, m < 16 → ∀ n : Nat, n < 4 → (m ||| 1 <<< n) < 16 ∧ (zi m ||| (zi 1 <<< (zi n &&& zi 31))) = zi ((m ||| 1 <<< n : Nat) : Int) ∧ ∀ c : Nat, c < 4 → bI ((m ||| 1 <<< n : Nat) : Int) c = if c = n then zi 1 else bI m c := by decide +kernel
theorem bI_or {m n : Int} (hm : 0 ≤ m ∧ m < 16) (hn : 0 ≤ n ∧ n < 4) : ∃ m' : Int, (0 ≤ m' ∧ m' < 16) ∧ (zi m ||| (zi 1 <<< (zi n &&& zi 31))) = zi m' ∧ ∀ c, 0 ≤ c → c < 4 → bI m' c = if c = n then zi 1 else bI m c := by
  obtain ⟨a1, a2, a3⟩ := bI_dec m.toNat (by omega) n.toNat (by omega)
  rw [Int.toNat_of_nonneg hm.1, Int.toNat_of_nonneg hn.1] at a2
  refine ⟨_, ⟨by omega, by omega⟩, a2, fun c c0 c4 => ?_⟩
  have := a3 c.toNat (by omega)
  rw [Int.toNat_of_nonneg hm.1, Int.toNat_of_nonneg c0] at this
  rw [this]
  by_cases q : c = n
  · rw [if_pos q, if_pos (by omega)]
  · rw [if_neg q, if_neg (by omega)]
/-! the orders' own steps, on stages -/
section DO
variable {a p s : Nat} {v : PG} {g : SG} {δc δm : Dl} {k : Int}
/-- GO -/
theorem lk_go (wg : WG g) (h : RS s g δc δm) (m : RM k g δm) {i : Int} (i0 : 0 ≤ i) (i1 : i < g.2.2.1) : ∃ δc' δm', F_St_goAhead s (zi i) δc = some δc' ∧ RS s g δc' δm' ∧ Fr (SGc s) δc δc' ∧ Fr SGm δm δm' ∧
    ((F_M_isWalled (zi i) δm = some (zi 0) ∧ ∃ u w : Int, F_M_aheadX (zi i) δm = some (zi u) ∧ F_M_aheadY (zi i) δm = some (zi w) ∧ δm' = sA (sA δm 135 23 (zi i) (zi w)) 134 23 (zi i) (zi u)) ∨
     (F_M_isWalled (zi i) δm = some (zi 1) ∧ δm' = sA δm 138 23 (zi i) (δm.2.1 138 23 (zi i) + zi 1))) := by
  obtain ⟨x, y, d, r, hx, hy, hd, hr, e74, e134, e135, e75, e136, e76, e77, -⟩ := h.2.2.2.2.2 i i0 i1
  have hw := wg.1
  have hh := wg.2.1
  have ha := wg.2.2.1
  have hk := m.1
  have q := dxy hd
  have aX := m_aheadX (δm := δm) ⟨i0, by omega⟩ e134 e136 hd
  have aY := m_aheadY (δm := δm) ⟨i0, by omega⟩ e135 e136 hd
  obtain ⟨u, hu, cw, mw⟩ := lk_walled wg h m i0 i1
  have bump : RS s g (sA δc 77 s (zi i) (δm.2.1 138 23 (zi i) + zi 1)) (sA δm 138 23 (zi i) (δm.2.1 138 23 (zi i) + zi 1)) := h.bump wg ⟨i0, i1⟩
  by_cases hin : (0 ≤ x + dx d ∧ x + dx d < g.1) ∧ (0 ≤ y + dy d ∧ y + dy d < g.2.1)
  · have ec := h.2.2.2.1 _ _ hin.1.1 hin.1.2 hin.2.1 hin.2.2
    have ep : (y + 1) * 10 + x + 1 + (10 * dy d + dx d) = (y + dy d + 1) * 10 + (x + dx d) + 1 := by omega
    have hm : F_M_isWalled (zi i) δm = if δm.2.1 133 23 (zi (8 * (y + dy d) + (x + dx d))) = zi (-1) then some (zi 1) else some (zi 0) := by
      simp (disch := omega) only [F_M_isWalled, F_M_within, ↓bnd_eq, bd2, bn2, Option.bind_some, Option.bind_none, aX, aY, m.2.1, m.2.2.1, m.2.2.2.1, ↓reduceIte, inb, zl, zi_add, zi_sub, zi_mul, zi_neg, zi_le_t, zi_le_f, zi_lt_t, zi_lt_f, zi_eq_t, zi_eq_f, if_true, if_false, ite_true, ite_false, true_and, and_true, false_and, and_false, not_true_eq_false, not_false_eq_true, true_or, or_true, false_or, or_false, and_self, ge_iff_le, gt_iff_lt]
    by_cases qc : δm.2.1 133 23 (zi (8 * (y + dy d) + (x + dx d))) = zi (-1)
    · rw [if_pos qc] at hm
      refine ⟨_, _, ?_, bump, Fr.rf.sA ⟨rfl, by decide, by decide⟩, Fr.rf.sA ⟨by decide, by decide⟩, Or.inr ⟨hm, rfl⟩⟩
      simp (disch := omega) only [F_St_goAhead, F_St_goAhead_56, ↓bnd_eq, bd2, bn2, Option.bind_some, Option.bind_none, h.2.2.1, e74, e75, e77, and3, tst, ep, ec, qc, ↓reduceIte, inb, zl, zi_add, zi_sub, zi_mul, zi_neg, zi_le_t, zi_le_f, zi_lt_t, zi_lt_f, zi_eq_t, zi_eq_f, if_true, if_false, ite_true, ite_false, true_and, and_true, false_and, and_false, not_true_eq_false, not_false_eq_true, true_or, or_true, false_or, or_false, and_self, ge_iff_le, gt_iff_lt]
    · rw [if_neg qc] at hm
      refine ⟨_, _, ?_, h.place wg ⟨i0, i1⟩ hin.1 hin.2, Fr.rf.sA ⟨rfl, by decide, by decide⟩, (Fr.rf.sA ⟨by decide, by decide⟩).sA ⟨by decide, by decide⟩, Or.inl ⟨hm, _, _, aX, aY, rfl⟩⟩
      simp (disch := omega) only [F_St_goAhead, F_St_goAhead_56, ↓bnd_eq, bd2, bn2, Option.bind_some, Option.bind_none, h.2.2.1, e74, e75, and3, tst, ep, ec, qc, ↓reduceIte, inb, zl, zi_add, zi_sub, zi_mul, zi_neg, zi_le_t, zi_le_f, zi_lt_t, zi_lt_f, zi_eq_t, zi_eq_f, if_true, if_false, ite_true, ite_false, true_and, and_true, false_and, and_false, not_true_eq_false, not_false_eq_true, true_or, or_true, false_or, or_false, and_self, ge_iff_le, gt_iff_lt]
  · have eb := h.2.2.2.2.1 ((y + 1) * 10 + x + 1 + (10 * dy d + dx d)) (by omega) (by omega) (by unfold bd; omega)
    have hm : F_M_isWalled (zi i) δm = some (zi 1) := by
      by_cases q1 : 0 ≤ x + dx d
      · by_cases q2 : x + dx d < g.1
        · by_cases q3 : 0 ≤ y + dy d
          · simp (disch := omega) only [F_M_isWalled, F_M_within, ↓bnd_eq, bd2, bn2, Option.bind_some, Option.bind_none, aX, aY, m.2.1, m.2.2.1, m.2.2.2.1, ↓reduceIte, inb, zl, zi_add, zi_sub, zi_mul, zi_neg, zi_le_t, zi_le_f, zi_lt_t, zi_lt_f, zi_eq_t, zi_eq_f, if_true, if_false, ite_true, ite_false, true_and, and_true, false_and, and_false, not_true_eq_false, not_false_eq_true, true_or, or_true, false_or, or_false, and_self, ge_iff_le, gt_iff_lt]
          · simp (disch := omega) only [F_M_isWalled, F_M_within, ↓bnd_eq, bd2, bn2, Option.bind_some, Option.bind_none, aX, aY, m.2.1, m.2.2.1, m.2.2.2.1, ↓reduceIte, inb, zl, zi_add, zi_sub, zi_mul, zi_neg, zi_le_t, zi_le_f, zi_lt_t, zi_lt_f, zi_eq_t, zi_eq_f, if_true, if_false, ite_true, ite_false, true_and, and_true, false_and, and_false, not_true_eq_false, not_false_eq_true, true_or, or_true, false_or, or_false, and_self, ge_iff_le, gt_iff_lt]
        · simp (disch := omega) only [F_M_isWalled, F_M_within, ↓bnd_eq, bd2, bn2, Option.bind_some, Option.bind_none, aX, aY, m.2.1, m.2.2.1, m.2.2.2.1, ↓reduceIte, inb, zl, zi_add, zi_sub, zi_mul, zi_neg, zi_le_t, zi_le_f, zi_lt_t, zi_lt_f, zi_eq_t, zi_eq_f, if_true, if_false, ite_true, ite_false, true_and, and_true, false_and, and_false, not_true_eq_false, not_false_eq_true, true_or, or_true, false_or, or_false, and_self, ge_iff_le, gt_iff_lt]
      · simp (disch := omega) only [F_M_isWalled, F_M_within, ↓bnd_eq, bd2, bn2, Option.bind_some, Option.bind_none, aX, aY, m.2.1, m.2.2.1, m.2.2.2.1, ↓reduceIte, inb, zl, zi_add, zi_sub, zi_mul, zi_neg, zi_le_t, zi_le_f, zi_lt_t, zi_lt_f, zi_eq_t, zi_eq_f, if_true, if_false, ite_true, ite_false, true_and, and_true, false_and, and_false, not_true_eq_false, not_false_eq_true, true_or, or_true, false_or, or_false, and_self, ge_iff_le, gt_iff_lt]
    refine ⟨_, _, ?_, bump, Fr.rf.sA ⟨rfl, by decide, by decide⟩, Fr.rf.sA ⟨by decide, by decide⟩, Or.inr ⟨hm, rfl⟩⟩
    simp (disch := omega) only [F_St_goAhead, F_St_goAhead_56, ↓bnd_eq, bd2, bn2, Option.bind_some, Option.bind_none, h.2.2.1, e74, e75, e77, and3, tst, eb, ↓reduceIte, inb, zl, zi_add, zi_sub, zi_mul, zi_neg, zi_le_t, zi_le_f, zi_lt_t, zi_lt_f, zi_eq_t, zi_eq_f, if_true, if_false, ite_true, ite_false, true_and, and_true, false_and, and_false, not_true_eq_false, not_false_eq_true, true_or, or_true, false_or, or_false, and_self, ge_iff_le, gt_iff_lt]
theorem and3' {d : Int} (h : 0 ≤ d ∧ d ≤ 6) : zi d &&& zi 3 = zi (d - d / 4 * 4) := by
  rcases (show d = 0 ∨ d = 1 ∨ d = 2 ∨ d = 3 ∨ d = 4 ∨ d = 5 ∨ d = 6 by omega) with rfl | rfl | rfl | rfl | rfl | rfl | rfl <;> decide
theorem RS.make (wg : WG g) (h : RS s g δc δm) {i r : Int} (hi : 0 ≤ i ∧ i < g.2.2.1) (hr : 0 ≤ r ∧ r ≤ 20) : RS s g (sW (sA δc 78 s (zi i) (zi r)) 79 s (fr1 (δc.2.1 79 s) (i * 20) (i * 20 + 20) (zi 0))) (sW (sA δm 139 23 (zi i) (zi r)) 140 23 (fr1 (δm.2.1 140 23) (20 * i + 0) (20 * i + 20) (zi 0))) := by
  have ha := wg.2.2.1
  refine ⟨h.1, h.2.1, h.2.2.1, h.2.2.2.1, h.2.2.2.2.1, fun j j0 j1 => ?_⟩
  obtain ⟨x, y, d, rl, hx, hy, hd, hrl, e74, e134, e135, e75, e136, e76, e77, e78, e139, e79⟩ := h.2.2.2.2.2 j j0 j1
  by_cases q : j = i
  · subst q
    refine ⟨x, y, d, r, hx, hy, hd, by omega, e74, e134, e135, e75, e136, e76, e77, ?_, ?_, fun l l0 l1 => ?_⟩
    · rw [rW (by decide), rAi, if_pos rfl]
    · rw [rW (by decide), rAi, if_pos rfl]
    · rw [rWi, rWi, fr1_in (by omega), fr1_in (by omega)]
  · refine ⟨x, y, d, rl, hx, hy, hd, hrl, e74, e134, e135, e75, e136, e76, e77, ?_, ?_, fun l l0 l1 => ?_⟩
    · rw [rW (by decide), rAi, if_neg (fun e => q (zi_inj e (by omega) (by omega)))]; exact e78
    · rw [rW (by decide), rAi, if_neg (fun e => q (zi_inj e (by omega) (by omega)))]; exact e139
    · rw [rWi, rWi, fr1_out (by omega), fr1_out (by omega)]
      exact e79 l l0 l1
end DO
