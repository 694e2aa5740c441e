/-! programs: what both sides hold, as one value (wip/whole/pure) -/
abbrev PG : Type := Int × Int × (Int → Int → Int) × (Int → Int → Int) × (Int → Int → Int)
def vset (v : PG) (b j x : Int) : PG := (v.1, v.2.1, fun b' j' => if j' = j ∧ b' = b then x else v.2.2.1 b' j', v.2.2.2.1, v.2.2.2.2)
def hset (v : PG) (b j x : Int) : PG := (v.1, v.2.1, v.2.2.1, fun b' j' => if j' = j ∧ b' = b then x else v.2.2.2.1 b' j', v.2.2.2.2)
def sset (v : PG) (b j x : Int) : PG := (v.1, v.2.1, v.2.2.1, v.2.2.2.1, fun b' j' => if j' = j ∧ b' = b then x else v.2.2.2.2 b' j')
/-- an object of the class holds the program v -/
def CP (p : Nat) (δ : Dl) (v : PG) : Prop :=
  δ.1 30 p = zi v.1 ∧ δ.1 31 p = zi v.2.1 ∧
  (∀ b j, 0 ≤ b → b < v.1 → 0 ≤ j → j < 5 → δ.2.1 32 p (zi (b * 5 + j)) = zi (v.2.2.1 b j)) ∧
  (∀ b j, 0 ≤ b → b < v.1 → 0 ≤ j → j < 5 → δ.2.1 33 p (zi (b * 5 + j)) = zi (v.2.2.2.1 b j)) ∧
  (∀ b j, 0 ≤ b → b < v.2.1 → 0 ≤ j → j < 5 → δ.2.1 34 p (zi (b * 5 + j)) = zi (v.2.2.2.2 b j))
/-- the reference holds it -/
def MP (δ : Dl) (v : PG) : Prop :=
  δ.1 118 23 = zi v.1 ∧ δ.1 125 23 = zi v.2.1 ∧
  (∀ b, 0 ≤ b → b < v.1 → δ.2.1 119 23 (zi b) = zi (v.2.2.1 b 0) ∧ δ.2.1 120 23 (zi b) = zi (v.2.2.1 b 1) ∧ δ.2.1 122 23 (zi b) = zi (v.2.2.1 b 2) ∧ δ.2.1 123 23 (zi b) = zi (v.2.2.1 b 3) ∧ δ.2.1 124 23 (zi b) = zi (v.2.2.1 b 4)) ∧
  (∀ b j, 0 ≤ b → b < v.1 → 0 ≤ j → j < 5 → δ.2.1 121 23 (zi (5 * b + j)) = zi (v.2.2.2.1 b j)) ∧
  (∀ b, 0 ≤ b → b < v.2.1 → δ.2.1 126 23 (zi b) = zi (v.2.2.2.2 b 0) ∧ δ.2.1 127 23 (zi b) = zi (v.2.2.2.2 b 1) ∧ δ.2.1 128 23 (zi b) = zi (v.2.2.2.2 b 2) ∧ δ.2.1 129 23 (zi b) = zi (v.2.2.2.2 b 3) ∧ δ.2.1 130 23 (zi b) = zi (v.2.2.2.2 b 4))
def HH (k h : Int) : Prop := (h = 0 ∧ k ≤ 12) ∨ (h = 1 ∧ 10 ≤ k ∧ k ≤ 12) ∨ (h = 2 ∧ k = 12) ∨ (h = 3 ∧ (k = 4 ∨ k = 5 ∨ (8 ≤ k ∧ k ≤ 12) ∨ k = 15 ∨ k = 17 ∨ k = 18 ∨ k = 20 ∨ k = 21)) ∨ (h = 4 ∧ (k = 9 ∨ k = 15 ∨ k = 18 ∨ k = 20))
/-- what a block keeps to -/
def BW (v : PG) (b : Int) : Prop :=
  (0 ≤ v.2.2.1 b 0 ∧ v.2.2.1 b 0 ≤ 22) ∧ ((-99 ≤ v.2.2.1 b 1 ∧ v.2.2.1 b 1 ≤ 99) ∧ (v.2.2.1 b 0 = 1 ∨ v.2.2.1 b 0 = 6 → 0 ≤ v.2.2.1 b 1 ∧ v.2.2.1 b 1 ≤ 3)) ∧
  ((v.2.2.1 b 2 = -1 ∧ v.2.2.1 b 3 = -1) ∨ ((0 ≤ v.2.2.1 b 2 ∧ v.2.2.1 b 2 < v.1) ∧ (0 ≤ v.2.2.1 b 3 ∧ v.2.2.1 b 3 < 5) ∧ v.2.2.2.1 (v.2.2.1 b 2) (v.2.2.1 b 3) = b ∧ v.2.2.1 b 4 = -1 ∧ HH (v.2.2.1 (v.2.2.1 b 2) 0) (v.2.2.1 b 3) ∧ (v.2.2.1 b 3 ≤ 2 → v.2.2.1 b 0 ≤ 12) ∧ (3 ≤ v.2.2.1 b 3 → 13 ≤ v.2.2.1 b 0))) ∧
  (v.2.2.1 b 4 = -1 ∨ ((0 ≤ v.2.2.1 b 4 ∧ v.2.2.1 b 4 < v.2.1) ∧ v.2.2.2.2 (v.2.2.1 b 4) 4 = b ∧ v.2.2.1 b 0 ≤ 12)) ∧
  (∀ h, 0 ≤ h → h < 5 → v.2.2.2.1 b h = -1 ∨ ((0 ≤ v.2.2.2.1 b h ∧ v.2.2.2.1 b h < v.1) ∧ v.2.2.1 (v.2.2.2.1 b h) 2 = b ∧ v.2.2.1 (v.2.2.2.1 b h) 3 = h))
def SW (v : PG) (s : Int) : Prop :=
  (0 ≤ v.2.2.2.2 s 0 ∧ v.2.2.2.2 s 0 ≤ 2) ∧ (0 ≤ v.2.2.2.2 s 1 ∧ v.2.2.2.2 s 1 ≤ 3) ∧ (0 ≤ v.2.2.2.2 s 2 ∧ v.2.2.2.2 s 2 ≤ 9) ∧ (v.2.2.2.2 s 1 = 1 → v.2.2.2.2 s 2 ≤ 3) ∧ (v.2.2.2.2 s 1 = 2 → 1 ≤ v.2.2.2.2 s 2) ∧ (0 ≤ v.2.2.2.2 s 3 ∧ v.2.2.2.2 s 3 ≤ 1) ∧
  (v.2.2.2.2 s 4 = -1 ∨ ((0 ≤ v.2.2.2.2 s 4 ∧ v.2.2.2.2 s 4 < v.1) ∧ v.2.2.1 (v.2.2.2.2 s 4) 4 = s))
def RKd (v : PG) (rk : Int → Nat) : Prop := ∀ b, 0 ≤ b → b < v.1 → v.2.2.1 b 2 ≠ -1 → rk b < rk (v.2.2.1 b 2)
def PW (v : PG) : Prop :=
  (0 ≤ v.1 ∧ v.1 ≤ 30) ∧ (0 ≤ v.2.1 ∧ v.2.1 ≤ 6) ∧ (∀ b, 0 ≤ b → b < v.1 → BW v b) ∧ (∀ s, 0 ≤ s → s < v.2.1 → SW v s) ∧ ∃ rk, RKd v rk
theorem CP.fr {S : Nat → Nat → Prop} {p : Nat} {δ δ' : Dl} {v : PG} (C : CP p δ v) (F : Fr S δ δ') (n : ∀ g, 30 ≤ g → g ≤ 34 → ¬ S g p) : CP p δ' v := by
  have f := fun g h1 h2 => F.2 g p (n g h1 h2)
  obtain ⟨c1, c2, c3, c4, c5⟩ := C
  refine ⟨by rw [(f 30 (by decide) (by decide)).1]; exact c1, by rw [(f 31 (by decide) (by decide)).1]; exact c2, ?_, ?_, ?_⟩
  · rw [(f 32 (by decide) (by decide)).2]; exact c3
  · rw [(f 33 (by decide) (by decide)).2]; exact c4
  · rw [(f 34 (by decide) (by decide)).2]; exact c5
theorem MP.fr {S : Nat → Nat → Prop} {δ δ' : Dl} {v : PG} (C : MP δ v) (F : Fr S δ δ') (n : ∀ g, 118 ≤ g → g ≤ 130 → ¬ S g 23) : MP δ' v := by
  have f := fun g h1 h2 => F.2 g 23 (n g h1 h2)
  obtain ⟨c1, c2, c3, c4, c5⟩ := C
  refine ⟨by rw [(f 118 (by decide) (by decide)).1]; exact c1, by rw [(f 125 (by decide) (by decide)).1]; exact c2, ?_, ?_, ?_⟩
  · rw [(f 119 (by decide) (by decide)).2, (f 120 (by decide) (by decide)).2, (f 122 (by decide) (by decide)).2, (f 123 (by decide) (by decide)).2, (f 124 (by decide) (by decide)).2]; exact c3
  · rw [(f 121 (by decide) (by decide)).2]; exact c4
  · rw [(f 126 (by decide) (by decide)).2, (f 127 (by decide) (by decide)).2, (f 128 (by decide) (by decide)).2, (f 129 (by decide) (by decide)).2, (f 130 (by decide) (by decide)).2]; exact c5
/-- bounds of a program's entries -/
theorem PW.k {v : PG} (W : PW v) {b : Int} (h0 : 0 ≤ b) (h : b < v.1) : 0 ≤ v.2.2.1 b 0 ∧ v.2.2.1 b 0 ≤ 22 := (W.2.2.1 b h0 h).1
theorem PW.n {v : PG} (W : PW v) {b : Int} (h0 : 0 ≤ b) (h : b < v.1) : -99 ≤ v.2.2.1 b 1 ∧ v.2.2.1 b 1 ≤ 99 := (W.2.2.1 b h0 h).2.1.1
theorem PW.u {v : PG} (W : PW v) {b : Int} (h0 : 0 ≤ b) (h : b < v.1) : -1 ≤ v.2.2.1 b 2 ∧ v.2.2.1 b 2 < v.1 := by
  have := (W.2.2.1 b h0 h).2.2.1
  have := W.1
  omega
theorem PW.w {v : PG} (W : PW v) {b : Int} (h0 : 0 ≤ b) (h : b < v.1) : -1 ≤ v.2.2.1 b 3 ∧ v.2.2.1 b 3 < 5 := by
  have := (W.2.2.1 b h0 h).2.2.1
  omega
theorem PW.t {v : PG} (W : PW v) {b : Int} (h0 : 0 ≤ b) (h : b < v.1) : -1 ≤ v.2.2.1 b 4 ∧ v.2.2.1 b 4 < 6 := by
  have := (W.2.2.1 b h0 h).2.2.2.1
  have := W.2.1
  omega
theorem PW.h {v : PG} (W : PW v) {b j : Int} (h0 : 0 ≤ b) (h : b < v.1) (j0 : 0 ≤ j) (j5 : j < 5) : -1 ≤ v.2.2.2.1 b j ∧ v.2.2.2.1 b j < v.1 := by
  have := (W.2.2.1 b h0 h).2.2.2.2 j j0 j5
  omega
theorem PW.tp {v : PG} (W : PW v) {s : Int} (h0 : 0 ≤ s) (h : s < v.2.1) : -1 ≤ v.2.2.2.2 s 4 ∧ v.2.2.2.2 s 4 < v.1 := by
  have := (W.2.2.2.1 s h0 h).2.2.2.2.2.2
  have := W.1
  omega
section CPR
variable {p : Nat} {δ : Dl} {v : PG}
theorem c_kind (C : CP p δ v) (W : PW v) {b : Int} (h0 : 0 ≤ b) (h : b < v.1) : F_Pr_kindOf p (zi b) δ = some (zi (v.2.2.1 b 0)) := by
  have := W.1
  have e := C.2.2.1 b 0 h0 h (by omega) (by omega)
  simp (disch := omega) only [F_Pr_kindOf, C.1, ↓reduceIte, inb, zl, zi_add, zi_sub, zi_mul, zi_neg, zi_le_t, zi_le_f, zi_lt_t, zi_lt_f, zi_eq_t, zi_eq_f, if_true, if_false, ite_true, ite_false, true_and, and_true, false_and, and_false, not_true_eq_false, not_false_eq_true, true_or, or_true, false_or, or_false, and_self, ge_iff_le, gt_iff_lt, e]
theorem c_kindN (C : CP p δ v) {b : Int} (hb : b = -1) : F_Pr_kindOf p (zi b) δ = some (zi (-1)) := by
  subst hb
  simp (disch := omega) only [F_Pr_kindOf, C.1, ↓reduceIte, inb, zl, zi_add, zi_sub, zi_mul, zi_neg, zi_le_t, zi_le_f, zi_lt_t, zi_lt_f, zi_eq_t, zi_eq_f, if_true, if_false, ite_true, ite_false, true_and, and_true, false_and, and_false, not_true_eq_false, not_false_eq_true, true_or, or_true, false_or, or_false, and_self, ge_iff_le, gt_iff_lt]
theorem c_num (C : CP p δ v) (W : PW v) {b : Int} (h0 : 0 ≤ b) (h : b < v.1) : F_Pr_numberOf p (zi b) δ = some (zi (v.2.2.1 b 1)) := by
  have := W.1
  have e := C.2.2.1 b 1 h0 h (by omega) (by omega)
  simp (disch := omega) only [F_Pr_numberOf, C.1, ↓reduceIte, inb, zl, zi_add, zi_sub, zi_mul, zi_neg, zi_le_t, zi_le_f, zi_lt_t, zi_lt_f, zi_eq_t, zi_eq_f, if_true, if_false, ite_true, ite_false, true_and, and_true, false_and, and_false, not_true_eq_false, not_false_eq_true, true_or, or_true, false_or, or_false, and_self, ge_iff_le, gt_iff_lt, e]
theorem c_inHole (C : CP p δ v) (W : PW v) {b j : Int} (h0 : 0 ≤ b) (h : b < v.1) (j0 : 0 ≤ j) (j5 : j < 5) : F_Pr_inHole p (zi b) (zi j) δ = some (zi (v.2.2.2.1 b j)) := by
  have := W.1
  have e := C.2.2.2.1 b j h0 h j0 j5
  simp (disch := omega) only [F_Pr_inHole, C.1, ↓reduceIte, inb, zl, zi_add, zi_sub, zi_mul, zi_neg, zi_le_t, zi_le_f, zi_lt_t, zi_lt_f, zi_eq_t, zi_eq_f, if_true, if_false, ite_true, ite_false, true_and, and_true, false_and, and_false, not_true_eq_false, not_false_eq_true, true_or, or_true, false_or, or_false, and_self, ge_iff_le, gt_iff_lt, e]
theorem c_inHoleN (C : CP p δ v) {b j : Int} (hb : b = -1) : F_Pr_inHole p (zi b) (zi j) δ = some (zi (-1)) := by
  subst hb
  simp (disch := omega) only [F_Pr_inHole, C.1, ↓reduceIte, inb, zl, zi_add, zi_sub, zi_mul, zi_neg, zi_le_t, zi_le_f, zi_lt_t, zi_lt_f, zi_eq_t, zi_eq_f, if_true, if_false, ite_true, ite_false, true_and, and_true, false_and, and_false, not_true_eq_false, not_false_eq_true, true_or, or_true, false_or, or_false, and_self, ge_iff_le, gt_iff_lt]
theorem c_actorOf (C : CP p δ v) (W : PW v) {b : Int} (h0 : 0 ≤ b) (h : b < v.2.1) : F_Pr_actorOf p (zi b) δ = some (zi (v.2.2.2.2 b 0)) := by
  have := W.2.1
  have e := C.2.2.2.2 b 0 h0 h (by omega) (by omega)
  simp (disch := omega) only [F_Pr_actorOf, C.2.1, ↓reduceIte, inb, zl, zi_add, zi_sub, zi_mul, zi_neg, zi_le_t, zi_le_f, zi_lt_t, zi_lt_f, zi_eq_t, zi_eq_f, if_true, if_false, ite_true, ite_false, true_and, and_true, false_and, and_false, not_true_eq_false, not_false_eq_true, true_or, or_true, false_or, or_false, and_self, ge_iff_le, gt_iff_lt, e]
theorem c_capOf (C : CP p δ v) (W : PW v) {b : Int} (h0 : 0 ≤ b) (h : b < v.2.1) : F_Pr_capOf p (zi b) δ = some (zi (v.2.2.2.2 b 1)) := by
  have := W.2.1
  have e := C.2.2.2.2 b 1 h0 h (by omega) (by omega)
  simp (disch := omega) only [F_Pr_capOf, C.2.1, ↓reduceIte, inb, zl, zi_add, zi_sub, zi_mul, zi_neg, zi_le_t, zi_le_f, zi_lt_t, zi_lt_f, zi_eq_t, zi_eq_f, if_true, if_false, ite_true, ite_false, true_and, and_true, false_and, and_false, not_true_eq_false, not_false_eq_true, true_or, or_true, false_or, or_false, and_self, ge_iff_le, gt_iff_lt, e]
theorem c_ncap (C : CP p δ v) (W : PW v) {b : Int} (h0 : 0 ≤ b) (h : b < v.2.1) : F_Pr_numberOfCap p (zi b) δ = some (zi (v.2.2.2.2 b 2)) := by
  have := W.2.1
  have e := C.2.2.2.2 b 2 h0 h (by omega) (by omega)
  simp (disch := omega) only [F_Pr_numberOfCap, C.2.1, ↓reduceIte, inb, zl, zi_add, zi_sub, zi_mul, zi_neg, zi_le_t, zi_le_f, zi_lt_t, zi_lt_f, zi_eq_t, zi_eq_f, if_true, if_false, ite_true, ite_false, true_and, and_true, false_and, and_false, not_true_eq_false, not_false_eq_true, true_or, or_true, false_or, or_false, and_self, ge_iff_le, gt_iff_lt, e]
theorem c_again (C : CP p δ v) (W : PW v) {b : Int} (h0 : 0 ≤ b) (h : b < v.2.1) : F_Pr_isAgain p (zi b) δ = some (zi (v.2.2.2.2 b 3)) := by
  have := W.2.1
  have hs := (W.2.2.2.1 b h0 h).2.2.2.2.2.1
  have e := C.2.2.2.2 b 3 h0 h (by omega) (by omega)
  rcases (show v.2.2.2.2 b 3 = 0 ∨ v.2.2.2.2 b 3 = 1 by omega) with q | q
  · rw [show v.2.2.2.2 b 3 = 0 from q] at e ⊢
    simp (disch := omega) only [F_Pr_isAgain, C.2.1, ↓reduceIte, inb, zl, zi_add, zi_sub, zi_mul, zi_neg, zi_le_t, zi_le_f, zi_lt_t, zi_lt_f, zi_eq_t, zi_eq_f, if_true, if_false, ite_true, ite_false, true_and, and_true, false_and, and_false, not_true_eq_false, not_false_eq_true, true_or, or_true, false_or, or_false, and_self, ge_iff_le, gt_iff_lt, e]
  · rw [show v.2.2.2.2 b 3 = 1 from q] at e ⊢
    simp (disch := omega) only [F_Pr_isAgain, C.2.1, ↓reduceIte, inb, zl, zi_add, zi_sub, zi_mul, zi_neg, zi_le_t, zi_le_f, zi_lt_t, zi_lt_f, zi_eq_t, zi_eq_f, if_true, if_false, ite_true, ite_false, true_and, and_true, false_and, and_false, not_true_eq_false, not_false_eq_true, true_or, or_true, false_or, or_false, and_self, ge_iff_le, gt_iff_lt, e]
theorem c_topOf (C : CP p δ v) (W : PW v) {b : Int} (h0 : 0 ≤ b) (h : b < v.2.1) : F_Pr_topOf p (zi b) δ = some (zi (v.2.2.2.2 b 4)) := by
  have := W.2.1
  have e := C.2.2.2.2 b 4 h0 h (by omega) (by omega)
  simp (disch := omega) only [F_Pr_topOf, C.2.1, ↓reduceIte, inb, zl, zi_add, zi_sub, zi_mul, zi_neg, zi_le_t, zi_le_f, zi_lt_t, zi_lt_f, zi_eq_t, zi_eq_f, if_true, if_false, ite_true, ite_false, true_and, and_true, false_and, and_false, not_true_eq_false, not_false_eq_true, true_or, or_true, false_or, or_false, and_self, ge_iff_le, gt_iff_lt, e]
theorem c_isBlock (C : CP p δ v) (W : PW v) {b : Int} (hr : -2147483648 ≤ b ∧ b < 2147483648) : F_Pr_isBlock p (zi b) δ = if 0 ≤ b ∧ b < v.1 then 1 else 0 := by
  have := W.1
  by_cases h0 : 0 ≤ b
  · by_cases h1 : b < v.1
    · rw [if_pos ⟨h0, h1⟩]; simp (disch := omega) only [F_Pr_isBlock, C.1, ↓reduceIte, inb, zl, zi_add, zi_sub, zi_mul, zi_neg, zi_le_t, zi_le_f, zi_lt_t, zi_lt_f, zi_eq_t, zi_eq_f, if_true, if_false, ite_true, ite_false, true_and, and_true, false_and, and_false, not_true_eq_false, not_false_eq_true, true_or, or_true, false_or, or_false, and_self, ge_iff_le, gt_iff_lt]
    · rw [if_neg (fun e => h1 e.2)]; simp (disch := omega) only [F_Pr_isBlock, C.1, ↓reduceIte, inb, zl, zi_add, zi_sub, zi_mul, zi_neg, zi_le_t, zi_le_f, zi_lt_t, zi_lt_f, zi_eq_t, zi_eq_f, if_true, if_false, ite_true, ite_false, true_and, and_true, false_and, and_false, not_true_eq_false, not_false_eq_true, true_or, or_true, false_or, or_false, and_self, ge_iff_le, gt_iff_lt]
  · rw [if_neg (fun e => h0 e.1)]; simp (disch := omega) only [F_Pr_isBlock, C.1, ↓reduceIte, inb, zl, zi_add, zi_sub, zi_mul, zi_neg, zi_le_t, zi_le_f, zi_lt_t, zi_lt_f, zi_eq_t, zi_eq_f, if_true, if_false, ite_true, ite_false, true_and, and_true, false_and, and_false, not_true_eq_false, not_false_eq_true, true_or, or_true, false_or, or_false, and_self, ge_iff_le, gt_iff_lt]
theorem c_isScript (C : CP p δ v) (W : PW v) {b : Int} (hr : -2147483648 ≤ b ∧ b < 2147483648) : F_Pr_isScript p (zi b) δ = if 0 ≤ b ∧ b < v.2.1 then 1 else 0 := by
  have := W.2.1
  by_cases h0 : 0 ≤ b
  · by_cases h1 : b < v.2.1
    · rw [if_pos ⟨h0, h1⟩]; simp (disch := omega) only [F_Pr_isScript, C.2.1, ↓reduceIte, inb, zl, zi_add, zi_sub, zi_mul, zi_neg, zi_le_t, zi_le_f, zi_lt_t, zi_lt_f, zi_eq_t, zi_eq_f, if_true, if_false, ite_true, ite_false, true_and, and_true, false_and, and_false, not_true_eq_false, not_false_eq_true, true_or, or_true, false_or, or_false, and_self, ge_iff_le, gt_iff_lt]
    · rw [if_neg (fun e => h1 e.2)]; simp (disch := omega) only [F_Pr_isScript, C.2.1, ↓reduceIte, inb, zl, zi_add, zi_sub, zi_mul, zi_neg, zi_le_t, zi_le_f, zi_lt_t, zi_lt_f, zi_eq_t, zi_eq_f, if_true, if_false, ite_true, ite_false, true_and, and_true, false_and, and_false, not_true_eq_false, not_false_eq_true, true_or, or_true, false_or, or_false, and_self, ge_iff_le, gt_iff_lt]
  · rw [if_neg (fun e => h0 e.1)]; simp (disch := omega) only [F_Pr_isScript, C.2.1, ↓reduceIte, inb, zl, zi_add, zi_sub, zi_mul, zi_neg, zi_le_t, zi_le_f, zi_lt_t, zi_lt_f, zi_eq_t, zi_eq_f, if_true, if_false, ite_true, ite_false, true_and, and_true, false_and, and_false, not_true_eq_false, not_false_eq_true, true_or, or_true, false_or, or_false, and_self, ge_iff_le, gt_iff_lt]
theorem c_isLoose (C : CP p δ v) (W : PW v) {b : Int} (h0 : 0 ≤ b) (h : b < v.1) : F_Pr_isLoose p (zi b) δ = some (if v.2.2.1 b 2 = -1 ∧ v.2.2.1 b 4 = -1 then 1 else 0) := by
  have := W.1
  have u := W.u h0 h
  have t := W.t h0 h
  have e2 := C.2.2.1 b 2 h0 h (by omega) (by omega)
  have e4 := C.2.2.1 b 4 h0 h (by omega) (by omega)
  by_cases q2 : v.2.2.1 b 2 = -1
  · by_cases q4 : v.2.2.1 b 4 = -1
    · rw [if_pos ⟨q2, q4⟩]; simp (disch := omega) only [F_Pr_isLoose, C.1, ↓reduceIte, inb, zl, zi_add, zi_sub, zi_mul, zi_neg, zi_le_t, zi_le_f, zi_lt_t, zi_lt_f, zi_eq_t, zi_eq_f, if_true, if_false, ite_true, ite_false, true_and, and_true, false_and, and_false, not_true_eq_false, not_false_eq_true, true_or, or_true, false_or, or_false, and_self, ge_iff_le, gt_iff_lt, e2, e4]
    · rw [if_neg (fun e => q4 e.2)]; simp (disch := omega) only [F_Pr_isLoose, C.1, ↓reduceIte, inb, zl, zi_add, zi_sub, zi_mul, zi_neg, zi_le_t, zi_le_f, zi_lt_t, zi_lt_f, zi_eq_t, zi_eq_f, if_true, if_false, ite_true, ite_false, true_and, and_true, false_and, and_false, not_true_eq_false, not_false_eq_true, true_or, or_true, false_or, or_false, and_self, ge_iff_le, gt_iff_lt, e2, e4]
  · rw [if_neg (fun e => q2 e.1)]; simp (disch := omega) only [F_Pr_isLoose, C.1, ↓reduceIte, inb, zl, zi_add, zi_sub, zi_mul, zi_neg, zi_le_t, zi_le_f, zi_lt_t, zi_lt_f, zi_eq_t, zi_eq_f, if_true, if_false, ite_true, ite_false, true_and, and_true, false_and, and_false, not_true_eq_false, not_false_eq_true, true_or, or_true, false_or, or_false, and_self, ge_iff_le, gt_iff_lt, e2, e4]
def hhb (k h : Int) : Bool := if h = 0 then decide (k ≤ 12) else if h = 1 then decide (10 ≤ k) && decide (k ≤ 12) else if h = 2 then decide (k = 12) else if h = 3 then decide (k = 4) || decide (k = 5) || (decide (8 ≤ k) && decide (k ≤ 12)) || decide (k = 15) || decide (k = 17) || decide (k = 18) || decide (k = 20) || decide (k = 21) else if h = 4 then decide (k = 9) || decide (k = 15) || decide (k = 18) || decide (k = 20) else false
theorem hhb_iff {k h : Int} : hhb k h = true ↔ HH k h := by
  unfold hhb HH
  by_cases h0 : h = 0
  · simp [h0]
  · by_cases h1 : h = 1
    · simp [h1]
    · by_cases h2 : h = 2
      · simp [h2]
      · by_cases h3 : h = 3
        · simp [h3, or_assoc]
        · by_cases h4 : h = 4
          · simp [h4, or_assoc]
          · simp [h0, h1, h2, h3, h4]
theorem hh_dec : ∀ k : Nat, k < 23 → ∀ h : Nat, h < 5 → F_M_hasHole (zi k) (zi h) = if hhb k h = true then 1 else 0 := by decide +kernel
theorem m_hasHole {k h : Int} (hk : 0 ≤ k ∧ k ≤ 22) (hr : -2147483648 ≤ h ∧ h < 2147483648) : (F_M_hasHole (zi k) (zi h) = 1 ∧ HH k h) ∨ (F_M_hasHole (zi k) (zi h) = 0 ∧ ¬ HH k h) := by
  by_cases hh : 0 ≤ h ∧ h < 5
  · have := hh_dec k.toNat (by omega) h.toNat (by omega)
    rw [Int.toNat_of_nonneg hk.1, Int.toNat_of_nonneg hh.1] at this
    by_cases q : hhb k h = true
    · rw [if_pos q] at this; exact Or.inl ⟨this, hhb_iff.mp q⟩
    · rw [if_neg q] at this; exact Or.inr ⟨this, fun e => q (hhb_iff.mpr e)⟩
  · refine Or.inr ⟨?_, ?_⟩
    · simp (disch := omega) only [F_M_hasHole, ↓reduceIte, inb, zl, zi_add, zi_sub, zi_mul, zi_neg, zi_le_t, zi_le_f, zi_lt_t, zi_lt_f, zi_eq_t, zi_eq_f, if_true, if_false, ite_true, ite_false, true_and, and_true, false_and, and_false, not_true_eq_false, not_false_eq_true, true_or, or_true, false_or, or_false, and_self, ge_iff_le, gt_iff_lt]
    · unfold HH; omega
theorem th_dec : ∀ k : Nat, k < 23 → ∀ h : Nat, h < 5 → (if (((tHK (zi k)) >>> ((zi h) &&& 31)) &&& 1) = 1 then (1 : Int32) else 0) = F_M_hasHole (zi k) (zi h) := by decide +kernel
theorem c_hasHole (C : CP p δ v) (W : PW v) {b h : Int} (h0 : 0 ≤ b) (h1 : b < v.1) (hr : -2147483648 ≤ h ∧ h < 2147483648) : F_Pr_hasHole p (zi b) (zi h) δ = some (F_M_hasHole (zi (v.2.2.1 b 0)) (zi h)) := by
  have := W.1
  have hk := W.k h0 h1
  have e := C.2.2.1 b 0 h0 h1 (by omega) (by omega)
  by_cases hh : 0 ≤ h ∧ h < 5
  · have t := th_dec (v.2.2.1 b 0).toNat (by omega) h.toNat (by omega)
    rw [Int.toNat_of_nonneg hk.1, Int.toNat_of_nonneg hh.1] at t
    rw [← t]
    have z31 : (31 : Int32) = zi 31 := zl 31
    have z1 : (1 : Int32) = zi 1 := zl 1
    have z0 : (0 : Int32) = zi 0 := zl 0
    simp (disch := omega) only [F_Pr_hasHole, bnd, C.1, ↓reduceIte, inb, zl, zi_add, zi_sub, zi_mul, zi_neg, zi_le_t, zi_le_f, zi_lt_t, zi_lt_f, zi_eq_t, zi_eq_f, if_true, if_false, ite_true, ite_false, true_and, and_true, false_and, and_false, not_true_eq_false, not_false_eq_true, true_or, or_true, false_or, or_false, and_self, ge_iff_le, gt_iff_lt, e]
    by_cases q : (tHK (zi (v.2.2.1 b 0)) >>> (zi h &&& zi 31)) &&& zi 1 = zi 1
    · rw [if_pos q, if_pos q]
    · rw [if_neg q, if_neg q]
  · have t := m_hasHole (k := v.2.2.1 b 0) hk hr
    have hn : ¬ HH (v.2.2.1 b 0) h := by unfold HH; omega
    have t0 : F_M_hasHole (zi (v.2.2.1 b 0)) (zi h) = 0 := by
      rcases t with ⟨_, t⟩ | ⟨t, _⟩
      · exact absurd t hn
      · exact t
    rw [t0]
    by_cases h2 : 0 ≤ h
    · simp (disch := omega) only [F_Pr_hasHole, bnd, C.1, ↓reduceIte, inb, zl, zi_add, zi_sub, zi_mul, zi_neg, zi_le_t, zi_le_f, zi_lt_t, zi_lt_f, zi_eq_t, zi_eq_f, if_true, if_false, ite_true, ite_false, true_and, and_true, false_and, and_false, not_true_eq_false, not_false_eq_true, true_or, or_true, false_or, or_false, and_self, ge_iff_le, gt_iff_lt, e]
    · simp (disch := omega) only [F_Pr_hasHole, bnd, C.1, ↓reduceIte, inb, zl, zi_add, zi_sub, zi_mul, zi_neg, zi_le_t, zi_le_f, zi_lt_t, zi_lt_f, zi_eq_t, zi_eq_f, if_true, if_false, ite_true, ite_false, true_and, and_true, false_and, and_false, not_true_eq_false, not_false_eq_true, true_or, or_true, false_or, or_false, and_self, ge_iff_le, gt_iff_lt, e]
theorem c_hasHoleN (C : CP p δ v) (W : PW v) {b : Int} {x : Int32} (hb : ¬ (0 ≤ b ∧ b < v.1)) (hr : -2147483648 ≤ b ∧ b < 2147483648) : F_Pr_hasHole p (zi b) x δ = some 0 := by
  have := W.1
  by_cases h2 : 0 ≤ b
  · simp (disch := omega) only [F_Pr_hasHole, bnd, C.1, ↓reduceIte, inb, zl, zi_add, zi_sub, zi_mul, zi_neg, zi_le_t, zi_le_f, zi_lt_t, zi_lt_f, zi_eq_t, zi_eq_f, if_true, if_false, ite_true, ite_false, true_and, and_true, false_and, and_false, not_true_eq_false, not_false_eq_true, true_or, or_true, false_or, or_false, and_self, ge_iff_le, gt_iff_lt]
  · simp (disch := omega) only [F_Pr_hasHole, bnd, C.1, ↓reduceIte, inb, zl, zi_add, zi_sub, zi_mul, zi_neg, zi_le_t, zi_le_f, zi_lt_t, zi_lt_f, zi_eq_t, zi_eq_f, if_true, if_false, ite_true, ite_false, true_and, and_true, false_and, and_false, not_true_eq_false, not_false_eq_true, true_or, or_true, false_or, or_false, and_self, ge_iff_le, gt_iff_lt]
end CPR
