/-! programs: what changes them (wip/whole/pure) -/
theorem zq {a b j b' j' : Int} (h : zi (b' * 5 + j') = zi (b * 5 + j)) (hb : 0 ≤ b ∧ b < 30) (hj : 0 ≤ j ∧ j < 5) (hb' : 0 ≤ b' ∧ b' < 30) (hj' : 0 ≤ j' ∧ j' < 5) : j' = j ∧ b' = b := by
  have := zi_inj h (by omega) (by omega)
  omega
theorem zq5 {b j b' j' : Int} (h : zi (5 * b' + j') = zi (5 * b + j)) (hb : 0 ≤ b ∧ b < 30) (hj : 0 ≤ j ∧ j < 5) (hb' : 0 ≤ b' ∧ b' < 30) (hj' : 0 ≤ j' ∧ j' < 5) : j' = j ∧ b' = b := by
  have := zi_inj h (by omega) (by omega)
  omega
theorem zq1 {b b' : Int} (h : zi b' = zi b) (hb : 0 ≤ b ∧ b < 30) (hb' : 0 ≤ b' ∧ b' < 30) : b' = b := zi_inj h (by omega) (by omega)
section OPS
variable {p : Nat} {δ : Dl} {v : PG}
theorem CP.vset (C : CP p δ v) (hN : v.1 ≤ 30) {b j : Int} (x : Int) (h0 : 0 ≤ b) (h1 : b < v.1) (j0 : 0 ≤ j) (j1 : j < 5) : CP p (sA δ 32 p (zi (b * 5 + j)) (zi x)) (vset v b j x) := by
  refine ⟨C.1, C.2.1, fun b' j' a1 a2 a3 a4 => ?_, C.2.2.2.1, C.2.2.2.2⟩
  have a2 : b' < v.1 := a2
  rw [q2A]
  show _ = zi (if j' = j ∧ b' = b then x else v.2.2.1 b' j')
  by_cases q : j' = j ∧ b' = b
  · obtain ⟨rfl, rfl⟩ := q
    rw [if_pos ⟨rfl, rfl, rfl⟩, if_pos ⟨rfl, rfl⟩]
  · rw [if_neg q, if_neg (fun e => q (zq (a := 0) e.2.2 ⟨h0, by omega⟩ ⟨j0, j1⟩ ⟨a1, by omega⟩ ⟨a3, a4⟩))]
    exact C.2.2.1 b' j' a1 a2 a3 a4
theorem CP.hset (C : CP p δ v) (hN : v.1 ≤ 30) {b j : Int} (x : Int) (h0 : 0 ≤ b) (h1 : b < v.1) (j0 : 0 ≤ j) (j1 : j < 5) : CP p (sA δ 33 p (zi (b * 5 + j)) (zi x)) (hset v b j x) := by
  refine ⟨C.1, C.2.1, C.2.2.1, fun b' j' a1 a2 a3 a4 => ?_, C.2.2.2.2⟩
  have a2 : b' < v.1 := a2
  rw [q2A]
  show _ = zi (if j' = j ∧ b' = b then x else v.2.2.2.1 b' j')
  by_cases q : j' = j ∧ b' = b
  · obtain ⟨rfl, rfl⟩ := q
    rw [if_pos ⟨rfl, rfl, rfl⟩, if_pos ⟨rfl, rfl⟩]
  · rw [if_neg q, if_neg (fun e => q (zq (a := 0) e.2.2 ⟨h0, by omega⟩ ⟨j0, j1⟩ ⟨a1, by omega⟩ ⟨a3, a4⟩))]
    exact C.2.2.2.1 b' j' a1 a2 a3 a4
theorem CP.sset (C : CP p δ v) (hN : v.2.1 ≤ 6) {b j : Int} (x : Int) (h0 : 0 ≤ b) (h1 : b < v.2.1) (j0 : 0 ≤ j) (j1 : j < 5) : CP p (sA δ 34 p (zi (b * 5 + j)) (zi x)) (sset v b j x) := by
  refine ⟨C.1, C.2.1, C.2.2.1, C.2.2.2.1, fun b' j' a1 a2 a3 a4 => ?_⟩
  have a2 : b' < v.2.1 := a2
  rw [q2A]
  show _ = zi (if j' = j ∧ b' = b then x else v.2.2.2.2 b' j')
  by_cases q : j' = j ∧ b' = b
  · obtain ⟨rfl, rfl⟩ := q
    rw [if_pos ⟨rfl, rfl, rfl⟩, if_pos ⟨rfl, rfl⟩]
  · rw [if_neg q, if_neg (fun e => q (zq (a := 0) e.2.2 ⟨h0, by omega⟩ ⟨j0, j1⟩ ⟨a1, by omega⟩ ⟨a3, a4⟩))]
    exact C.2.2.2.2 b' j' a1 a2 a3 a4
theorem rA {f g b a : Nat} {i v j : Int32} (h : ¬ g = f) : (sA δ f a i v).2.1 g b j = δ.2.1 g b j := by rw [q2A, if_neg (fun e => h e.1)]
theorem rAi {f a : Nat} {i v j : Int32} : (sA δ f a i v).2.1 f a j = if j = i then v else δ.2.1 f a j := by
  rw [q2A]
  by_cases h : j = i
  · rw [if_pos ⟨rfl, rfl, h⟩, if_pos h]
  · rw [if_neg (fun e => h e.2.2), if_neg h]
theorem MP.n (C : MP δ v) (hN : v.1 ≤ 30) {b : Int} (x : Int) (h0 : 0 ≤ b) (h1 : b < v.1) : MP (sA δ 120 23 (zi b) (zi x)) (vset v b 1 x) := by
  refine ⟨C.1, C.2.1, fun b' a1 a2 => ?_, C.2.2.2.1, C.2.2.2.2⟩
  have a2 : b' < v.1 := a2
  obtain ⟨e0, e1, e2, e3, e4⟩ := C.2.2.1 b' a1 a2
  rw [rA (by decide), rAi, rA (by decide), rA (by decide), rA (by decide)]
  refine ⟨e0, ?_, e2, e3, e4⟩
  show _ = zi (if (1 : Int) = 1 ∧ b' = b then x else v.2.2.1 b' 1)
  by_cases q : b' = b
  · rw [q, if_pos rfl, if_pos ⟨rfl, rfl⟩]
  · rw [if_neg (fun e => q (zq1 e ⟨h0, by omega⟩ ⟨a1, by omega⟩)), if_neg (fun e => q e.2)]; exact e1
theorem MP.u (C : MP δ v) (hN : v.1 ≤ 30) {b : Int} (x : Int) (h0 : 0 ≤ b) (h1 : b < v.1) : MP (sA δ 122 23 (zi b) (zi x)) (vset v b 2 x) := by
  refine ⟨C.1, C.2.1, fun b' a1 a2 => ?_, C.2.2.2.1, C.2.2.2.2⟩
  have a2 : b' < v.1 := a2
  obtain ⟨e0, e1, e2, e3, e4⟩ := C.2.2.1 b' a1 a2
  rw [rA (by decide), rA (by decide), rAi, rA (by decide), rA (by decide)]
  refine ⟨e0, e1, ?_, e3, e4⟩
  show _ = zi (if (2 : Int) = 2 ∧ b' = b then x else v.2.2.1 b' 2)
  by_cases q : b' = b
  · rw [q, if_pos rfl, if_pos ⟨rfl, rfl⟩]
  · rw [if_neg (fun e => q (zq1 e ⟨h0, by omega⟩ ⟨a1, by omega⟩)), if_neg (fun e => q e.2)]; exact e2
theorem MP.w (C : MP δ v) (hN : v.1 ≤ 30) {b : Int} (x : Int) (h0 : 0 ≤ b) (h1 : b < v.1) : MP (sA δ 123 23 (zi b) (zi x)) (vset v b 3 x) := by
  refine ⟨C.1, C.2.1, fun b' a1 a2 => ?_, C.2.2.2.1, C.2.2.2.2⟩
  have a2 : b' < v.1 := a2
  obtain ⟨e0, e1, e2, e3, e4⟩ := C.2.2.1 b' a1 a2
  rw [rA (by decide), rA (by decide), rA (by decide), rAi, rA (by decide)]
  refine ⟨e0, e1, e2, ?_, e4⟩
  show _ = zi (if (3 : Int) = 3 ∧ b' = b then x else v.2.2.1 b' 3)
  by_cases q : b' = b
  · rw [q, if_pos rfl, if_pos ⟨rfl, rfl⟩]
  · rw [if_neg (fun e => q (zq1 e ⟨h0, by omega⟩ ⟨a1, by omega⟩)), if_neg (fun e => q e.2)]; exact e3
theorem MP.t (C : MP δ v) (hN : v.1 ≤ 30) {b : Int} (x : Int) (h0 : 0 ≤ b) (h1 : b < v.1) : MP (sA δ 124 23 (zi b) (zi x)) (vset v b 4 x) := by
  refine ⟨C.1, C.2.1, fun b' a1 a2 => ?_, C.2.2.2.1, C.2.2.2.2⟩
  have a2 : b' < v.1 := a2
  obtain ⟨e0, e1, e2, e3, e4⟩ := C.2.2.1 b' a1 a2
  rw [rA (by decide), rA (by decide), rA (by decide), rA (by decide), rAi]
  refine ⟨e0, e1, e2, e3, ?_⟩
  show _ = zi (if (4 : Int) = 4 ∧ b' = b then x else v.2.2.1 b' 4)
  by_cases q : b' = b
  · rw [q, if_pos rfl, if_pos ⟨rfl, rfl⟩]
  · rw [if_neg (fun e => q (zq1 e ⟨h0, by omega⟩ ⟨a1, by omega⟩)), if_neg (fun e => q e.2)]; exact e4
theorem MP.h (C : MP δ v) (hN : v.1 ≤ 30) {b j : Int} (x : Int) (h0 : 0 ≤ b) (h1 : b < v.1) (j0 : 0 ≤ j) (j1 : j < 5) : MP (sA δ 121 23 (zi (5 * b + j)) (zi x)) (hset v b j x) := by
  refine ⟨C.1, C.2.1, C.2.2.1, fun b' j' a1 a2 a3 a4 => ?_, C.2.2.2.2⟩
  have a2 : b' < v.1 := a2
  rw [rAi]
  show _ = zi (if j' = j ∧ b' = b then x else v.2.2.2.1 b' j')
  by_cases q : j' = j ∧ b' = b
  · obtain ⟨rfl, rfl⟩ := q
    rw [if_pos rfl, if_pos ⟨rfl, rfl⟩]
  · rw [if_neg q, if_neg (fun e => q (zq5 e ⟨h0, by omega⟩ ⟨j0, j1⟩ ⟨a1, by omega⟩ ⟨a3, a4⟩))]
    exact C.2.2.2.1 b' j' a1 a2 a3 a4
theorem MP.tp (C : MP δ v) (hN : v.2.1 ≤ 6) {b : Int} (x : Int) (h0 : 0 ≤ b) (h1 : b < v.2.1) : MP (sA δ 130 23 (zi b) (zi x)) (sset v b 4 x) := by
  refine ⟨C.1, C.2.1, C.2.2.1, C.2.2.2.1, fun b' a1 a2 => ?_⟩
  have a2 : b' < v.2.1 := a2
  obtain ⟨e0, e1, e2, e3, e4⟩ := C.2.2.2.2 b' a1 a2
  rw [rA (by decide), rA (by decide), rA (by decide), rA (by decide), rAi]
  refine ⟨e0, e1, e2, e3, ?_⟩
  show _ = zi (if (4 : Int) = 4 ∧ b' = b then x else v.2.2.2.2 b' 4)
  by_cases q : b' = b
  · rw [q, if_pos rfl, if_pos ⟨rfl, rfl⟩]
  · rw [if_neg (fun e => q (zq1 e ⟨h0, by omega⟩ ⟨a1, by omega⟩)), if_neg (fun e => q e.2)]; exact e4
end OPS
def attV (v : PG) (b h o : Int) : PG := vset (vset (hset v b h o) o 2 b) o 3 h
def topV (v : PG) (s b : Int) : PG := vset (sset v s 4 b) b 4 s
def lvA (v : PG) (b : Int) : PG := if v.2.2.1 b 2 = -1 then v else hset v (v.2.2.1 b 2) (v.2.2.1 b 3) (-1)
def lvB (v : PG) (b : Int) : PG := if v.2.2.1 b 4 = -1 then lvA v b else sset (lvA v b) (v.2.2.1 b 4) 4 (-1)
def lvV (v : PG) (b : Int) : PG := vset (vset (vset (lvB v b) b 2 (-1)) b 3 (-1)) b 4 (-1)
/-- a program's own fields, of the class and of the reference -/
abbrev SP (p : Nat) : Nat → Nat → Prop := fun g a => a = p ∧ 32 ≤ g ∧ g ≤ 34
abbrev SMP : Nat → Nat → Prop := fun g _ => 119 ≤ g ∧ g ≤ 130
section OP2
variable {p : Nat} {δ : Dl} {v : PG}
theorem c_attach (C : CP p δ v) (hN : v.1 ≤ 30) {b h o : Int} (b0 : 0 ≤ b) (b1 : b < v.1) (h0 : 0 ≤ h) (h1 : h < 5) (o0 : 0 ≤ o) (o1 : o < v.1) : ∃ δ', F_Pr_attach p (zi b) (zi h) (zi o) δ = some δ' ∧ CP p δ' (attV v b h o) ∧ Fr (SP p) δ δ' := by
  have E : F_Pr_attach p (zi b) (zi h) (zi o) δ = some (sA (sA (sA δ 33 p (zi (b * 5 + h)) (zi o)) 32 p (zi (o * 5 + 2)) (zi b)) 32 p (zi (o * 5 + 3)) (zi h)) := by
    simp (disch := omega) only [F_Pr_attach, bnd, bd2, bn2, Option.bind_some, Option.bind_none, C.1, ↓reduceIte, inb, zl, zi_add, zi_sub, zi_mul, zi_neg, zi_le_t, zi_le_f, zi_lt_t, zi_lt_f, zi_eq_t, zi_eq_f, if_true, if_false, ite_true, ite_false, true_and, and_true, false_and, and_false, not_true_eq_false, not_false_eq_true, true_or, or_true, false_or, or_false, and_self, ge_iff_le, gt_iff_lt]
  refine ⟨_, E, ?_, ((Fr.rf.sA ⟨rfl, by omega, by omega⟩).sA ⟨rfl, by omega, by omega⟩).sA ⟨rfl, by omega, by omega⟩⟩
  exact ((C.hset hN o b0 b1 h0 h1).vset hN b o0 o1 (by decide) (by decide)).vset hN h o0 o1 (by decide) (by decide)
theorem c_attachN (C : CP p δ v) {b h o : Int} (hb : b = -1 ∨ o = -1) (hb0 : -1 ≤ b ∧ b < 30) (ho : -1 ≤ o ∧ o < 30) (hh : -1 ≤ h ∧ h < 5) (hN : 0 ≤ v.1 ∧ v.1 ≤ 30) : F_Pr_attach p (zi b) (zi h) (zi o) δ = some δ := by
  by_cases c1 : b < 0
  · simp (disch := omega) only [F_Pr_attach, bnd, bd2, bn2, Option.bind_some, Option.bind_none, C.1, ↓reduceIte, inb, zl, zi_add, zi_sub, zi_mul, zi_neg, zi_le_t, zi_le_f, zi_lt_t, zi_lt_f, zi_eq_t, zi_eq_f, if_true, if_false, ite_true, ite_false, true_and, and_true, false_and, and_false, not_true_eq_false, not_false_eq_true, true_or, or_true, false_or, or_false, and_self, ge_iff_le, gt_iff_lt]
  · by_cases c2 : v.1 ≤ b
    · simp (disch := omega) only [F_Pr_attach, bnd, bd2, bn2, Option.bind_some, Option.bind_none, C.1, ↓reduceIte, inb, zl, zi_add, zi_sub, zi_mul, zi_neg, zi_le_t, zi_le_f, zi_lt_t, zi_lt_f, zi_eq_t, zi_eq_f, if_true, if_false, ite_true, ite_false, true_and, and_true, false_and, and_false, not_true_eq_false, not_false_eq_true, true_or, or_true, false_or, or_false, and_self, ge_iff_le, gt_iff_lt]
    · by_cases c3 : h < 0
      · simp (disch := omega) only [F_Pr_attach, bnd, bd2, bn2, Option.bind_some, Option.bind_none, C.1, ↓reduceIte, inb, zl, zi_add, zi_sub, zi_mul, zi_neg, zi_le_t, zi_le_f, zi_lt_t, zi_lt_f, zi_eq_t, zi_eq_f, if_true, if_false, ite_true, ite_false, true_and, and_true, false_and, and_false, not_true_eq_false, not_false_eq_true, true_or, or_true, false_or, or_false, and_self, ge_iff_le, gt_iff_lt]
      · simp (disch := omega) only [F_Pr_attach, bnd, bd2, bn2, Option.bind_some, Option.bind_none, C.1, ↓reduceIte, inb, zl, zi_add, zi_sub, zi_mul, zi_neg, zi_le_t, zi_le_f, zi_lt_t, zi_lt_f, zi_eq_t, zi_eq_f, if_true, if_false, ite_true, ite_false, true_and, and_true, false_and, and_false, not_true_eq_false, not_false_eq_true, true_or, or_true, false_or, or_false, and_self, ge_iff_le, gt_iff_lt]
theorem c_attachTop (C : CP p δ v) (hN : v.1 ≤ 30) (hM : v.2.1 ≤ 6) {s b : Int} (s0 : 0 ≤ s) (s1 : s < v.2.1) (b0 : 0 ≤ b) (b1 : b < v.1) : ∃ δ', F_Pr_attachTop p (zi s) (zi b) δ = some δ' ∧ CP p δ' (topV v s b) ∧ Fr (SP p) δ δ' := by
  have E : F_Pr_attachTop p (zi s) (zi b) δ = some (sA (sA δ 34 p (zi (s * 5 + 4)) (zi b)) 32 p (zi (b * 5 + 4)) (zi s)) := by
    simp (disch := omega) only [F_Pr_attachTop, bnd, bd2, bn2, Option.bind_some, Option.bind_none, C.1, C.2.1, ↓reduceIte, inb, zl, zi_add, zi_sub, zi_mul, zi_neg, zi_le_t, zi_le_f, zi_lt_t, zi_lt_f, zi_eq_t, zi_eq_f, if_true, if_false, ite_true, ite_false, true_and, and_true, false_and, and_false, not_true_eq_false, not_false_eq_true, true_or, or_true, false_or, or_false, and_self, ge_iff_le, gt_iff_lt]
  refine ⟨_, E, ?_, (Fr.rf.sA ⟨rfl, by omega, by omega⟩).sA ⟨rfl, by omega, by omega⟩⟩
  exact (C.sset hM b s0 s1 (by decide) (by decide)).vset hN s b0 b1 (by decide) (by decide)
theorem c_attachTopN (C : CP p δ v) {s b : Int} (hb : s = -1 ∨ b = -1) (hs : -1 ≤ s ∧ s < 6) (hb0 : -1 ≤ b ∧ b < 30) (hM : 0 ≤ v.2.1 ∧ v.2.1 ≤ 6) (hN : 0 ≤ v.1 ∧ v.1 ≤ 30) : F_Pr_attachTop p (zi s) (zi b) δ = some δ := by
  by_cases c1 : s < 0
  · simp (disch := omega) only [F_Pr_attachTop, bnd, bd2, bn2, Option.bind_some, Option.bind_none, C.1, C.2.1, ↓reduceIte, inb, zl, zi_add, zi_sub, zi_mul, zi_neg, zi_le_t, zi_le_f, zi_lt_t, zi_lt_f, zi_eq_t, zi_eq_f, if_true, if_false, ite_true, ite_false, true_and, and_true, false_and, and_false, not_true_eq_false, not_false_eq_true, true_or, or_true, false_or, or_false, and_self, ge_iff_le, gt_iff_lt]
  · by_cases c2 : v.2.1 ≤ s
    · simp (disch := omega) only [F_Pr_attachTop, bnd, bd2, bn2, Option.bind_some, Option.bind_none, C.1, C.2.1, ↓reduceIte, inb, zl, zi_add, zi_sub, zi_mul, zi_neg, zi_le_t, zi_le_f, zi_lt_t, zi_lt_f, zi_eq_t, zi_eq_f, if_true, if_false, ite_true, ite_false, true_and, and_true, false_and, and_false, not_true_eq_false, not_false_eq_true, true_or, or_true, false_or, or_false, and_self, ge_iff_le, gt_iff_lt]
    · simp (disch := omega) only [F_Pr_attachTop, bnd, bd2, bn2, Option.bind_some, Option.bind_none, C.1, C.2.1, ↓reduceIte, inb, zl, zi_add, zi_sub, zi_mul, zi_neg, zi_le_t, zi_le_f, zi_lt_t, zi_lt_f, zi_eq_t, zi_eq_f, if_true, if_false, ite_true, ite_false, true_and, and_true, false_and, and_false, not_true_eq_false, not_false_eq_true, true_or, or_true, false_or, or_false, and_self, ge_iff_le, gt_iff_lt]
theorem c_detach (C : CP p δ v) (W : PW v) {b : Int} (b0 : 0 ≤ b) (b1 : b < v.1) : ∃ δ', F_Pr_detach p (zi b) δ = some δ' ∧ CP p δ' (lvV v b) ∧ Fr (SP p) δ δ' := by
  have hN := W.1
  have hM := W.2.1
  have e2 := C.2.2.1 b 2 b0 b1 (by omega) (by omega)
  have e3 := C.2.2.1 b 3 b0 b1 (by omega) (by omega)
  have e4 := C.2.2.1 b 4 b0 b1 (by omega) (by omega)
  have w := (W.2.2.1 b b0 b1).2.2.1
  have t := (W.2.2.1 b b0 b1).2.2.2.1
  have wu := W.u b0 b1
  have ww := W.w b0 b1
  have wt := W.t b0 b1
  by_cases q2 : v.2.2.1 b 2 = -1
  · by_cases q4 : v.2.2.1 b 4 = -1
    · have E : F_Pr_detach p (zi b) δ = some (sA (sA (sA δ 32 p (zi (b * 5 + 2)) (zi (-1))) 32 p (zi (b * 5 + 3)) (zi (-1))) 32 p (zi (b * 5 + 4)) (zi (-1))) := by
        simp (disch := omega) only [F_Pr_detach, F_Pr_detach_79, F_Pr_detach_105, bnd, bd2, bn2, Option.bind_some, Option.bind_none, C.1, C.2.1, e2, e3, e4, q1I, q2I, q1A, q2A, q3A, Nat.reduceEqDiff, ↓reduceIte, inb, zl, zi_add, zi_sub, zi_mul, zi_neg, zi_le_t, zi_le_f, zi_lt_t, zi_lt_f, zi_eq_t, zi_eq_f, if_true, if_false, ite_true, ite_false, true_and, and_true, false_and, and_false, not_true_eq_false, not_false_eq_true, true_or, or_true, false_or, or_false, and_self, ge_iff_le, gt_iff_lt]
      refine ⟨_, E, ?_, ((Fr.rf.sA ⟨rfl, by omega, by omega⟩).sA ⟨rfl, by omega, by omega⟩).sA ⟨rfl, by omega, by omega⟩⟩
      have hv : lvB v b = v := by unfold lvB lvA; rw [if_pos q4, if_pos q2]
      unfold lvV
      rw [hv]
      exact ((C.vset hN.2 (-1) b0 b1 (by decide) (by decide)).vset hN.2 (-1) b0 b1 (by decide) (by decide)).vset hN.2 (-1) b0 b1 (by decide) (by decide)
    · have E : F_Pr_detach p (zi b) δ = some (sA (sA (sA (sA δ 34 p (zi (v.2.2.1 b 4 * 5 + 4)) (zi (-1))) 32 p (zi (b * 5 + 2)) (zi (-1))) 32 p (zi (b * 5 + 3)) (zi (-1))) 32 p (zi (b * 5 + 4)) (zi (-1))) := by
        simp (disch := omega) only [F_Pr_detach, F_Pr_detach_79, F_Pr_detach_105, bnd, bd2, bn2, Option.bind_some, Option.bind_none, C.1, C.2.1, e2, e3, e4, q1I, q2I, q1A, q2A, q3A, Nat.reduceEqDiff, ↓reduceIte, inb, zl, zi_add, zi_sub, zi_mul, zi_neg, zi_le_t, zi_le_f, zi_lt_t, zi_lt_f, zi_eq_t, zi_eq_f, if_true, if_false, ite_true, ite_false, true_and, and_true, false_and, and_false, not_true_eq_false, not_false_eq_true, true_or, or_true, false_or, or_false, and_self, ge_iff_le, gt_iff_lt]
      refine ⟨_, E, ?_, (((Fr.rf.sA ⟨rfl, by omega, by omega⟩).sA ⟨rfl, by omega, by omega⟩).sA ⟨rfl, by omega, by omega⟩).sA ⟨rfl, by omega, by omega⟩⟩
      have hv : lvB v b = sset v (v.2.2.1 b 4) 4 (-1) := by unfold lvB lvA; rw [if_neg q4, if_pos q2]
      unfold lvV
      rw [hv]
      exact (((C.sset hM.2 (-1) (by omega) (by omega) (by decide) (by decide)).vset hN.2 (-1) b0 b1 (by decide) (by decide)).vset hN.2 (-1) b0 b1 (by decide) (by decide)).vset hN.2 (-1) b0 b1 (by decide) (by decide)
  · by_cases q4 : v.2.2.1 b 4 = -1
    · have E : F_Pr_detach p (zi b) δ = some (sA (sA (sA (sA δ 33 p (zi (v.2.2.1 b 2 * 5 + v.2.2.1 b 3)) (zi (-1))) 32 p (zi (b * 5 + 2)) (zi (-1))) 32 p (zi (b * 5 + 3)) (zi (-1))) 32 p (zi (b * 5 + 4)) (zi (-1))) := by
        simp (disch := omega) only [F_Pr_detach, F_Pr_detach_79, F_Pr_detach_105, bnd, bd2, bn2, Option.bind_some, Option.bind_none, C.1, C.2.1, e2, e3, e4, q1I, q2I, q1A, q2A, q3A, Nat.reduceEqDiff, ↓reduceIte, inb, zl, zi_add, zi_sub, zi_mul, zi_neg, zi_le_t, zi_le_f, zi_lt_t, zi_lt_f, zi_eq_t, zi_eq_f, if_true, if_false, ite_true, ite_false, true_and, and_true, false_and, and_false, not_true_eq_false, not_false_eq_true, true_or, or_true, false_or, or_false, and_self, ge_iff_le, gt_iff_lt]
      refine ⟨_, E, ?_, (((Fr.rf.sA ⟨rfl, by omega, by omega⟩).sA ⟨rfl, by omega, by omega⟩).sA ⟨rfl, by omega, by omega⟩).sA ⟨rfl, by omega, by omega⟩⟩
      have hv : lvB v b = hset v (v.2.2.1 b 2) (v.2.2.1 b 3) (-1) := by unfold lvB lvA; rw [if_pos q4, if_neg q2]
      unfold lvV
      rw [hv]
      exact (((C.hset hN.2 (-1) (by omega) (by omega) (by omega) (by omega)).vset hN.2 (-1) b0 b1 (by decide) (by decide)).vset hN.2 (-1) b0 b1 (by decide) (by decide)).vset hN.2 (-1) b0 b1 (by decide) (by decide)
    · exfalso; omega
theorem c_detachN (C : CP p δ v) {b : Int} (hb : b = -1) : F_Pr_detach p (zi b) δ = some δ := by
  subst hb
  simp (disch := omega) only [F_Pr_detach, ↓reduceIte, inb, zl, zi_add, zi_sub, zi_mul, zi_neg, zi_le_t, zi_le_f, zi_lt_t, zi_lt_f, zi_eq_t, zi_eq_f, if_true, if_false, ite_true, ite_false, true_and, and_true, false_and, and_false, not_true_eq_false, not_false_eq_true, true_or, or_true, false_or, or_false, and_self, ge_iff_le, gt_iff_lt]
theorem m_puts (C : MP δ v) (hN : v.1 ≤ 30) {b h o : Int} (b0 : 0 ≤ b) (b1 : b < v.1) (h0 : 0 ≤ h) (h1 : h < 5) (o0 : 0 ≤ o) (o1 : o < v.1) : ∃ δ', F_M_puts (zi o) (zi h) (zi b) δ = some δ' ∧ MP δ' (attV v b h o) ∧ Fr SMP δ δ' := by
  have E : F_M_puts (zi o) (zi h) (zi b) δ = some (sA (sA (sA δ 121 23 (zi (5 * b + h)) (zi o)) 122 23 (zi o) (zi b)) 123 23 (zi o) (zi h)) := by
    simp (disch := omega) only [F_M_puts, bnd, bd2, bn2, Option.bind_some, Option.bind_none, ↓reduceIte, inb, zl, zi_add, zi_sub, zi_mul, zi_neg, zi_le_t, zi_le_f, zi_lt_t, zi_lt_f, zi_eq_t, zi_eq_f, if_true, if_false, ite_true, ite_false, true_and, and_true, false_and, and_false, not_true_eq_false, not_false_eq_true, true_or, or_true, false_or, or_false, and_self, ge_iff_le, gt_iff_lt]
  refine ⟨_, E, ?_, ((Fr.rf.sA ⟨by omega, by omega⟩).sA ⟨by omega, by omega⟩).sA ⟨by omega, by omega⟩⟩
  exact ((C.h hN o b0 b1 h0 h1).u hN b o0 o1).w hN h o0 o1
theorem m_leaves (C : MP δ v) (W : PW v) {b : Int} (b0 : 0 ≤ b) (b1 : b < v.1) : ∃ δ', F_M_leaves (zi b) δ = some δ' ∧ MP δ' (lvV v b) ∧ Fr SMP δ δ' := by
  have hN := W.1
  have hM := W.2.1
  obtain ⟨e0, e1, e2, e3, e4⟩ := C.2.2.1 b b0 b1
  have w := (W.2.2.1 b b0 b1).2.2.1
  have t := (W.2.2.1 b b0 b1).2.2.2.1
  have wu := W.u b0 b1
  have ww := W.w b0 b1
  have wt := W.t b0 b1
  by_cases q2 : v.2.2.1 b 2 = -1
  · by_cases q4 : v.2.2.1 b 4 = -1
    · have E : F_M_leaves (zi b) δ = some (sA (sA (sA δ 122 23 (zi b) (zi (-1))) 123 23 (zi b) (zi (-1))) 124 23 (zi b) (zi (-1))) := by
        simp (disch := omega) only [F_M_leaves, F_M_leaves_31, F_M_leaves_53, bnd, bd2, bn2, Option.bind_some, Option.bind_none, e2, e3, e4, rA, ↓reduceIte, inb, zl, zi_add, zi_sub, zi_mul, zi_neg, zi_le_t, zi_le_f, zi_lt_t, zi_lt_f, zi_eq_t, zi_eq_f, if_true, if_false, ite_true, ite_false, true_and, and_true, false_and, and_false, not_true_eq_false, not_false_eq_true, true_or, or_true, false_or, or_false, and_self, ge_iff_le, gt_iff_lt]
      refine ⟨_, E, ?_, ((Fr.rf.sA ⟨by omega, by omega⟩).sA ⟨by omega, by omega⟩).sA ⟨by omega, by omega⟩⟩
      have hv : lvB v b = v := by unfold lvB lvA; rw [if_pos q4, if_pos q2]
      unfold lvV
      rw [hv]
      exact ((C.u hN.2 (-1) b0 b1).w hN.2 (-1) b0 b1).t hN.2 (-1) b0 b1
    · have E : F_M_leaves (zi b) δ = some (sA (sA (sA (sA δ 130 23 (zi (v.2.2.1 b 4)) (zi (-1))) 122 23 (zi b) (zi (-1))) 123 23 (zi b) (zi (-1))) 124 23 (zi b) (zi (-1))) := by
        simp (disch := omega) only [F_M_leaves, F_M_leaves_31, F_M_leaves_53, bnd, bd2, bn2, Option.bind_some, Option.bind_none, e2, e3, e4, rA, ↓reduceIte, inb, zl, zi_add, zi_sub, zi_mul, zi_neg, zi_le_t, zi_le_f, zi_lt_t, zi_lt_f, zi_eq_t, zi_eq_f, if_true, if_false, ite_true, ite_false, true_and, and_true, false_and, and_false, not_true_eq_false, not_false_eq_true, true_or, or_true, false_or, or_false, and_self, ge_iff_le, gt_iff_lt]
      refine ⟨_, E, ?_, (((Fr.rf.sA ⟨by omega, by omega⟩).sA ⟨by omega, by omega⟩).sA ⟨by omega, by omega⟩).sA ⟨by omega, by omega⟩⟩
      have hv : lvB v b = sset v (v.2.2.1 b 4) 4 (-1) := by unfold lvB lvA; rw [if_neg q4, if_pos q2]
      unfold lvV
      rw [hv]
      exact (((C.tp hM.2 (-1) (by omega) (by omega)).u hN.2 (-1) b0 b1).w hN.2 (-1) b0 b1).t hN.2 (-1) b0 b1
  · by_cases q4 : v.2.2.1 b 4 = -1
    · have E : F_M_leaves (zi b) δ = some (sA (sA (sA (sA δ 121 23 (zi (5 * v.2.2.1 b 2 + v.2.2.1 b 3)) (zi (-1))) 122 23 (zi b) (zi (-1))) 123 23 (zi b) (zi (-1))) 124 23 (zi b) (zi (-1))) := by
        simp (disch := omega) only [F_M_leaves, F_M_leaves_31, F_M_leaves_53, bnd, bd2, bn2, Option.bind_some, Option.bind_none, e2, e3, e4, rA, ↓reduceIte, inb, zl, zi_add, zi_sub, zi_mul, zi_neg, zi_le_t, zi_le_f, zi_lt_t, zi_lt_f, zi_eq_t, zi_eq_f, if_true, if_false, ite_true, ite_false, true_and, and_true, false_and, and_false, not_true_eq_false, not_false_eq_true, true_or, or_true, false_or, or_false, and_self, ge_iff_le, gt_iff_lt]
      refine ⟨_, E, ?_, (((Fr.rf.sA ⟨by omega, by omega⟩).sA ⟨by omega, by omega⟩).sA ⟨by omega, by omega⟩).sA ⟨by omega, by omega⟩⟩
      have hv : lvB v b = hset v (v.2.2.1 b 2) (v.2.2.1 b 3) (-1) := by unfold lvB lvA; rw [if_pos q4, if_neg q2]
      unfold lvV
      rw [hv]
      exact (((C.h hN.2 (-1) (by omega) (by omega) (by omega) (by omega)).u hN.2 (-1) b0 b1).w hN.2 (-1) b0 b1).t hN.2 (-1) b0 b1
    · exfalso; omega
end OP2
