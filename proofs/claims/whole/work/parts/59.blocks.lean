/-! the calls of blocks (wip/whole/pure) -/
abbrev SPr : Nat → Nat → Prop := fun f a => (a = 1 ∧ 30 ≤ f ∧ f ≤ 34) ∨ (f = 42 ∧ a = 8) ∨ (a = 23 ∧ ((118 ≤ f ∧ f ≤ 130) ∨ f = 152))
theorem INV.prog {δ δ2 : Dl} {v : PG} {g : SG} {n : Int} {gk : Int → SG} (h2 : J2 g δ) (h3 : J3 n gk δ) (hr : JR δ) (F : Fr SPr δ δ2) (h1 : J1 v δ2) (o1 : δ2.1 42 8 = zi 0) (o2 : δ2.1 152 23 = zi (-1)) : INV δ2 := by
  have e' : ∀ f a, SPr f a → (a = 1 ∧ 30 ≤ f ∧ f ≤ 34) ∨ (f = 42 ∧ a = 8) ∨ (a = 23 ∧ ((118 ≤ f ∧ f ≤ 130) ∨ f = 152)) := fun f a e => e
  exact ⟨⟨v, g, h1, h2.fr F (fun f a q e => by have := e' f a e; omega), Or.inl ⟨o1, o2⟩⟩, ⟨n, gk, h3.fr F (fun f a q e => by have := e' f a e; omega)⟩, hr.fr F (fun f a q e => by
    have q' : (a = 14 ∧ 10 ≤ f ∧ f ≤ 11) ∨ (16 ≤ a ∧ a ≤ 17 ∧ 80 ≤ f ∧ f ≤ 85) ∨ (a = 0 ∧ 103 ≤ f ∧ f ≤ 107) ∨ (a = 15 ∧ 10 ≤ f ∧ f ≤ 11) ∨ (19 ≤ a ∧ a ≤ 22 ∧ 22 ≤ f ∧ f ≤ 23) ∨ (a = 18 ∧ 60 ≤ f ∧ f ≤ 62) ∨ (a = 23 ∧ ((153 ≤ f ∧ f ≤ 173) ∨ f = 177)) := q
    have := e' f a e
    omega)⟩
theorem frSP {δ δ' : Dl} (F : Fr (SP 1) δ δ') : Fr SPr δ δ' := F.to (fun x y e => Or.inl ⟨e.1, by have := e.2; omega, by have := e.2; omega⟩)
theorem frSM {δ δ' : Dl} (F : Fr (fun g b => b = 23 ∧ 119 ≤ g ∧ g ≤ 130) δ δ') : Fr SPr δ δ' := F.to (fun x y e => Or.inr (Or.inr ⟨e.1, Or.inl ⟨by omega, e.2.2⟩⟩))
section NM
theorem num_of {k n : Int} (hk : 0 ≤ k ∧ k ≤ 22) (hn : -2147483648 ≤ n ∧ n < 2147483648) : (F_Bs_isNumberOf (zi k) (zi n) = zi 1 ∧ F_M_isNumber (zi k) (zi n) = zi 1 ∧ (-99 ≤ n ∧ n ≤ 99) ∧ (k = 1 ∨ k = 6 → 0 ≤ n ∧ n ≤ 3)) ∨ (F_Bs_isNumberOf (zi k) (zi n) = zi 0 ∧ F_M_isNumber (zi k) (zi n) = zi 0) := by
  by_cases q : k = 1 ∨ k = 6
  · by_cases qn : 0 ≤ n ∧ n ≤ 3
    · left
      refine ⟨?_, ?_, by omega, fun _ => qn⟩
      · rcases q with rfl | rfl <;> simp (disch := omega) only [F_Bs_isNumberOf, F_Bs_isNumberOf_11, ↓reduceIte, inb, zl, zi_add, zi_sub, zi_mul, zi_neg, zi_le_t, zi_le_f, zi_lt_t, zi_lt_f, zi_eq_t, zi_eq_f, if_true, if_false, ite_true, ite_false, true_and, and_true, false_and, and_false, not_true_eq_false, not_false_eq_true, true_or, or_true, false_or, or_false, and_self, ge_iff_le, gt_iff_lt]
      · rcases q with rfl | rfl <;> simp (disch := omega) only [F_M_isNumber, F_M_isNumber_11, F_M_within, ↓bnd_eq, bd2, bn2, Option.bind_some, Option.bind_none, ↓reduceIte, inb, zl, zi_add, zi_sub, zi_mul, zi_neg, zi_le_t, zi_le_f, zi_lt_t, zi_lt_f, zi_eq_t, zi_eq_f, if_true, if_false, ite_true, ite_false, true_and, and_true, false_and, and_false, not_true_eq_false, not_false_eq_true, true_or, or_true, false_or, or_false, and_self, ge_iff_le, gt_iff_lt]
    · right
      by_cases q0 : n < 0
      · constructor
        · rcases q with rfl | rfl <;> simp (disch := omega) only [F_Bs_isNumberOf, F_Bs_isNumberOf_11, ↓reduceIte, inb, zl, zi_add, zi_sub, zi_mul, zi_neg, zi_le_t, zi_le_f, zi_lt_t, zi_lt_f, zi_eq_t, zi_eq_f, if_true, if_false, ite_true, ite_false, true_and, and_true, false_and, and_false, not_true_eq_false, not_false_eq_true, true_or, or_true, false_or, or_false, and_self, ge_iff_le, gt_iff_lt]
        · rcases q with rfl | rfl <;> simp (disch := omega) only [F_M_isNumber, F_M_isNumber_11, F_M_within, ↓bnd_eq, bd2, bn2, Option.bind_some, Option.bind_none, ↓reduceIte, inb, zl, zi_add, zi_sub, zi_mul, zi_neg, zi_le_t, zi_le_f, zi_lt_t, zi_lt_f, zi_eq_t, zi_eq_f, if_true, if_false, ite_true, ite_false, true_and, and_true, false_and, and_false, not_true_eq_false, not_false_eq_true, true_or, or_true, false_or, or_false, and_self, ge_iff_le, gt_iff_lt]
      · constructor
        · rcases q with rfl | rfl <;> simp (disch := omega) only [F_Bs_isNumberOf, F_Bs_isNumberOf_11, ↓reduceIte, inb, zl, zi_add, zi_sub, zi_mul, zi_neg, zi_le_t, zi_le_f, zi_lt_t, zi_lt_f, zi_eq_t, zi_eq_f, if_true, if_false, ite_true, ite_false, true_and, and_true, false_and, and_false, not_true_eq_false, not_false_eq_true, true_or, or_true, false_or, or_false, and_self, ge_iff_le, gt_iff_lt]
        · rcases q with rfl | rfl <;> simp (disch := omega) only [F_M_isNumber, F_M_isNumber_11, F_M_within, ↓bnd_eq, bd2, bn2, Option.bind_some, Option.bind_none, ↓reduceIte, inb, zl, zi_add, zi_sub, zi_mul, zi_neg, zi_le_t, zi_le_f, zi_lt_t, zi_lt_f, zi_eq_t, zi_eq_f, if_true, if_false, ite_true, ite_false, true_and, and_true, false_and, and_false, not_true_eq_false, not_false_eq_true, true_or, or_true, false_or, or_false, and_self, ge_iff_le, gt_iff_lt]
  · by_cases q13 : k = 13
    · subst q13
      by_cases qn : -99 ≤ n ∧ n ≤ 99
      · left
        refine ⟨?_, ?_, qn, fun e => absurd e q⟩
        · simp (disch := omega) only [F_Bs_isNumberOf, ↓reduceIte, inb, zl, zi_add, zi_sub, zi_mul, zi_neg, zi_le_t, zi_le_f, zi_lt_t, zi_lt_f, zi_eq_t, zi_eq_f, if_true, if_false, ite_true, ite_false, true_and, and_true, false_and, and_false, not_true_eq_false, not_false_eq_true, true_or, or_true, false_or, or_false, and_self, ge_iff_le, gt_iff_lt]
        · simp (disch := omega) only [F_M_isNumber, F_M_within, ↓bnd_eq, bd2, bn2, Option.bind_some, Option.bind_none, ↓reduceIte, inb, zl, zi_add, zi_sub, zi_mul, zi_neg, zi_le_t, zi_le_f, zi_lt_t, zi_lt_f, zi_eq_t, zi_eq_f, if_true, if_false, ite_true, ite_false, true_and, and_true, false_and, and_false, not_true_eq_false, not_false_eq_true, true_or, or_true, false_or, or_false, and_self, ge_iff_le, gt_iff_lt]
      · right
        by_cases q0 : n < -99
        · constructor
          · simp (disch := omega) only [F_Bs_isNumberOf, ↓reduceIte, inb, zl, zi_add, zi_sub, zi_mul, zi_neg, zi_le_t, zi_le_f, zi_lt_t, zi_lt_f, zi_eq_t, zi_eq_f, if_true, if_false, ite_true, ite_false, true_and, and_true, false_and, and_false, not_true_eq_false, not_false_eq_true, true_or, or_true, false_or, or_false, and_self, ge_iff_le, gt_iff_lt]
          · simp (disch := omega) only [F_M_isNumber, F_M_within, ↓bnd_eq, bd2, bn2, Option.bind_some, Option.bind_none, ↓reduceIte, inb, zl, zi_add, zi_sub, zi_mul, zi_neg, zi_le_t, zi_le_f, zi_lt_t, zi_lt_f, zi_eq_t, zi_eq_f, if_true, if_false, ite_true, ite_false, true_and, and_true, false_and, and_false, not_true_eq_false, not_false_eq_true, true_or, or_true, false_or, or_false, and_self, ge_iff_le, gt_iff_lt]
        · constructor
          · simp (disch := omega) only [F_Bs_isNumberOf, ↓reduceIte, inb, zl, zi_add, zi_sub, zi_mul, zi_neg, zi_le_t, zi_le_f, zi_lt_t, zi_lt_f, zi_eq_t, zi_eq_f, if_true, if_false, ite_true, ite_false, true_and, and_true, false_and, and_false, not_true_eq_false, not_false_eq_true, true_or, or_true, false_or, or_false, and_self, ge_iff_le, gt_iff_lt]
          · simp (disch := omega) only [F_M_isNumber, F_M_within, ↓bnd_eq, bd2, bn2, Option.bind_some, Option.bind_none, ↓reduceIte, inb, zl, zi_add, zi_sub, zi_mul, zi_neg, zi_le_t, zi_le_f, zi_lt_t, zi_lt_f, zi_eq_t, zi_eq_f, if_true, if_false, ite_true, ite_false, true_and, and_true, false_and, and_false, not_true_eq_false, not_false_eq_true, true_or, or_true, false_or, or_false, and_self, ge_iff_le, gt_iff_lt]
    · by_cases qn : n = 0
      · left
        subst qn
        refine ⟨?_, ?_, by omega, fun e => absurd e q⟩
        · simp (disch := omega) only [F_Bs_isNumberOf, ↓reduceIte, inb, zl, zi_add, zi_sub, zi_mul, zi_neg, zi_le_t, zi_le_f, zi_lt_t, zi_lt_f, zi_eq_t, zi_eq_f, if_true, if_false, ite_true, ite_false, true_and, and_true, false_and, and_false, not_true_eq_false, not_false_eq_true, true_or, or_true, false_or, or_false, and_self, ge_iff_le, gt_iff_lt]
        · simp (disch := omega) only [F_M_isNumber, ↓reduceIte, inb, zl, zi_add, zi_sub, zi_mul, zi_neg, zi_le_t, zi_le_f, zi_lt_t, zi_lt_f, zi_eq_t, zi_eq_f, if_true, if_false, ite_true, ite_false, true_and, and_true, false_and, and_false, not_true_eq_false, not_false_eq_true, true_or, or_true, false_or, or_false, and_self, ge_iff_le, gt_iff_lt]
      · right
        constructor
        · simp (disch := omega) only [F_Bs_isNumberOf, ↓reduceIte, inb, zl, zi_add, zi_sub, zi_mul, zi_neg, zi_le_t, zi_le_f, zi_lt_t, zi_lt_f, zi_eq_t, zi_eq_f, if_true, if_false, ite_true, ite_false, true_and, and_true, false_and, and_false, not_true_eq_false, not_false_eq_true, true_or, or_true, false_or, or_false, and_self, ge_iff_le, gt_iff_lt]
        · simp (disch := omega) only [F_M_isNumber, ↓reduceIte, inb, zl, zi_add, zi_sub, zi_mul, zi_neg, zi_le_t, zi_le_f, zi_lt_t, zi_lt_f, zi_eq_t, zi_eq_f, if_true, if_false, ite_true, ite_false, true_and, and_true, false_and, and_false, not_true_eq_false, not_false_eq_true, true_or, or_true, false_or, or_false, and_self, ge_iff_le, gt_iff_lt]
end NM
section IS
variable {δ : Dl} {v : PG}
theorem m_isIn (M : MP δ v) (W : PW v) {b : Int} (b0 : 0 ≤ b) (b1 : b < v.1) : F_M_isIn (zi b) δ = some (if v.2.2.1 b 2 = -1 ∧ v.2.2.1 b 4 = -1 then zi 0 else zi 1) := by
  have := W.1
  have u := W.u b0 b1
  have t := W.t b0 b1
  obtain ⟨f0, f1, f2, f3, f4⟩ := M.2.2.1 b b0 b1
  by_cases q2 : v.2.2.1 b 2 = -1
  · by_cases q4 : v.2.2.1 b 4 = -1
    · rw [if_pos ⟨q2, q4⟩]; simp (disch := omega) only [F_M_isIn, f2, f4, ↓reduceIte, inb, zl, zi_add, zi_sub, zi_mul, zi_neg, zi_le_t, zi_le_f, zi_lt_t, zi_lt_f, zi_eq_t, zi_eq_f, if_true, if_false, ite_true, ite_false, true_and, and_true, false_and, and_false, not_true_eq_false, not_false_eq_true, true_or, or_true, false_or, or_false, and_self, ge_iff_le, gt_iff_lt]
    · rw [if_neg (fun e => q4 e.2)]; simp (disch := omega) only [F_M_isIn, f2, f4, ↓reduceIte, inb, zl, zi_add, zi_sub, zi_mul, zi_neg, zi_le_t, zi_le_f, zi_lt_t, zi_lt_f, zi_eq_t, zi_eq_f, if_true, if_false, ite_true, ite_false, true_and, and_true, false_and, and_false, not_true_eq_false, not_false_eq_true, true_or, or_true, false_or, or_false, and_self, ge_iff_le, gt_iff_lt]
  · rw [if_neg (fun e => q2 e.1)]; simp (disch := omega) only [F_M_isIn, f2, f4, ↓reduceIte, inb, zl, zi_add, zi_sub, zi_mul, zi_neg, zi_le_t, zi_le_f, zi_lt_t, zi_lt_f, zi_eq_t, zi_eq_f, if_true, if_false, ite_true, ite_false, true_and, and_true, false_and, and_false, not_true_eq_false, not_false_eq_true, true_or, or_true, false_or, or_false, and_self, ge_iff_le, gt_iff_lt]
theorem m_putsF (C : MP δ v) (hN : v.1 ≤ 30) {b h o : Int} (b0 : 0 ≤ b) (b1 : b < v.1) (h0 : 0 ≤ h) (h1 : h < 5) (o0 : 0 ≤ o) (o1 : o < v.1) : ∃ δ', F_M_puts (zi o) (zi h) (zi b) δ = some δ' ∧ MP δ' (attV v b h o) ∧ Fr (fun g b => b = 23 ∧ 119 ≤ g ∧ g ≤ 130) δ δ' := by
  have E : F_M_puts (zi o) (zi h) (zi b) δ = some (sA (sA (sA δ 121 23 (zi (5 * b + h)) (zi o)) 122 23 (zi o) (zi b)) 123 23 (zi o) (zi h)) := by
    simp (disch := omega) only [F_M_puts, ↓bnd_eq, bd2, bn2, Option.bind_some, Option.bind_none, ↓reduceIte, inb, zl, zi_add, zi_sub, zi_mul, zi_neg, zi_le_t, zi_le_f, zi_lt_t, zi_lt_f, zi_eq_t, zi_eq_f, if_true, if_false, ite_true, ite_false, true_and, and_true, false_and, and_false, not_true_eq_false, not_false_eq_true, true_or, or_true, false_or, or_false, and_self, ge_iff_le, gt_iff_lt]
  refine ⟨_, E, ?_, ((Fr.rf.sA ⟨rfl, by decide, by decide⟩).sA ⟨rfl, by decide, by decide⟩).sA ⟨rfl, by decide, by decide⟩⟩
  exact ((C.h hN o b0 b1 h0 h1).u hN b o0 o1).w hN h o0 o1
theorem m_leavesF (C : MP δ v) (W : PW v) {b : Int} (b0 : 0 ≤ b) (b1 : b < v.1) : ∃ δ', F_M_leaves (zi b) δ = some δ' ∧ MP δ' (lvV v b) ∧ Fr (fun g b => b = 23 ∧ 119 ≤ g ∧ g ≤ 130) δ δ' := by
  have hN := W.1
  have hM := W.2.1
  obtain ⟨e0, e1, e2, e3, e4⟩ := C.2.2.1 b b0 b1
  have w := (W.2.2.1 b b0 b1).2.2.1
  have t := (W.2.2.1 b b0 b1).2.2.2.1
  have wu := W.u b0 b1
  have ww := W.w b0 b1
  have wt := W.t b0 b1
  obtain ⟨δ', e, m, -⟩ := m_leaves C W b0 b1
  refine ⟨δ', e, m, ?_⟩
  by_cases q2 : v.2.2.1 b 2 = -1
  · by_cases q4 : v.2.2.1 b 4 = -1
    · have E : F_M_leaves (zi b) δ = some (sA (sA (sA δ 122 23 (zi b) (zi (-1))) 123 23 (zi b) (zi (-1))) 124 23 (zi b) (zi (-1))) := by
        simp (disch := omega) only [F_M_leaves, F_M_leaves_31, F_M_leaves_53, ↓bnd_eq, bd2, bn2, Option.bind_some, Option.bind_none, e2, e3, e4, rA, ↓reduceIte, inb, zl, zi_add, zi_sub, zi_mul, zi_neg, zi_le_t, zi_le_f, zi_lt_t, zi_lt_f, zi_eq_t, zi_eq_f, if_true, if_false, ite_true, ite_false, true_and, and_true, false_and, and_false, not_true_eq_false, not_false_eq_true, true_or, or_true, false_or, or_false, and_self, ge_iff_le, gt_iff_lt]
      cases e.symm.trans E
      exact ((Fr.rf.sA ⟨rfl, by decide, by decide⟩).sA ⟨rfl, by decide, by decide⟩).sA ⟨rfl, by decide, by decide⟩
    · have E : F_M_leaves (zi b) δ = some (sA (sA (sA (sA δ 130 23 (zi (v.2.2.1 b 4)) (zi (-1))) 122 23 (zi b) (zi (-1))) 123 23 (zi b) (zi (-1))) 124 23 (zi b) (zi (-1))) := by
        simp (disch := omega) only [F_M_leaves, F_M_leaves_31, F_M_leaves_53, ↓bnd_eq, bd2, bn2, Option.bind_some, Option.bind_none, e2, e3, e4, rA, ↓reduceIte, inb, zl, zi_add, zi_sub, zi_mul, zi_neg, zi_le_t, zi_le_f, zi_lt_t, zi_lt_f, zi_eq_t, zi_eq_f, if_true, if_false, ite_true, ite_false, true_and, and_true, false_and, and_false, not_true_eq_false, not_false_eq_true, true_or, or_true, false_or, or_false, and_self, ge_iff_le, gt_iff_lt]
      cases e.symm.trans E
      exact (((Fr.rf.sA ⟨rfl, by decide, by decide⟩).sA ⟨rfl, by decide, by decide⟩).sA ⟨rfl, by decide, by decide⟩).sA ⟨rfl, by decide, by decide⟩
  · by_cases q4 : v.2.2.1 b 4 = -1
    · have E : F_M_leaves (zi b) δ = some (sA (sA (sA (sA δ 121 23 (zi (5 * v.2.2.1 b 2 + v.2.2.1 b 3)) (zi (-1))) 122 23 (zi b) (zi (-1))) 123 23 (zi b) (zi (-1))) 124 23 (zi b) (zi (-1))) := by
        simp (disch := omega) only [F_M_leaves, F_M_leaves_31, F_M_leaves_53, ↓bnd_eq, bd2, bn2, Option.bind_some, Option.bind_none, e2, e3, e4, rA, ↓reduceIte, inb, zl, zi_add, zi_sub, zi_mul, zi_neg, zi_le_t, zi_le_f, zi_lt_t, zi_lt_f, zi_eq_t, zi_eq_f, if_true, if_false, ite_true, ite_false, true_and, and_true, false_and, and_false, not_true_eq_false, not_false_eq_true, true_or, or_true, false_or, or_false, and_self, ge_iff_le, gt_iff_lt]
      cases e.symm.trans E
      exact (((Fr.rf.sA ⟨rfl, by decide, by decide⟩).sA ⟨rfl, by decide, by decide⟩).sA ⟨rfl, by decide, by decide⟩).sA ⟨rfl, by decide, by decide⟩
    · exfalso; omega
theorem PW.num (W : PW v) {b n : Int} (b0 : 0 ≤ b) (b1 : b < v.1) (hn : -99 ≤ n ∧ n ≤ 99) (h16 : v.2.2.1 b 0 = 1 ∨ v.2.2.1 b 0 = 6 → 0 ≤ n ∧ n ≤ 3) : PW (vset v b 1 n) := by
  obtain ⟨wN, wM, wB, wS, rk, wR⟩ := W
  have eB : ∀ x j, (vset v b 1 n).2.2.1 x j = if j = 1 ∧ x = b then n else v.2.2.1 x j := fun _ _ => rfl
  have e : ∀ x j, j ≠ 1 → (vset v b 1 n).2.2.1 x j = v.2.2.1 x j := fun x j hj => by rw [eB, if_neg (fun e => hj e.1)]
  refine ⟨wN, wM, fun x x0 x1 => ?_, fun s s0 s1 => ?_, rk, fun x x0 x1 hx => ?_⟩
  · obtain ⟨k1, n1, u1, t1, l1⟩ := wB x x0 x1
    refine ⟨by rw [e x 0 (by decide)]; exact k1, ?_, ?_, by rw [e x 4 (by decide), e x 0 (by decide)]; exact t1, fun j j0 j5 => ?_⟩
    · rw [e x 0 (by decide), eB]
      by_cases q : x = b
      · subst q; rw [if_pos ⟨rfl, rfl⟩]; exact ⟨hn, h16⟩
      · rw [if_neg (fun e => q e.2)]; exact n1
    · simp only [e _ 2 (by decide), e _ 3 (by decide), e _ 4 (by decide), e _ 0 (by decide)]
      exact u1
    · have := l1 j j0 j5
      simp only [e _ 2 (by decide), e _ 3 (by decide)]
      exact this
  · have := wS s s0 s1
    unfold SW at this ⊢
    simp only [e _ 4 (by decide)]
    exact this
  · rw [e x 2 (by decide)] at hx ⊢
    exact wR x x0 x1 hx
end IS
theorem st_take (x1 : Int32) : S2 INV (F_Bs_take x1) (F_M_take x1) := by
  intro δ I
  obtain ⟨⟨v, g, h1, h2, h4⟩, ⟨kn, gk, h3⟩, hr⟩ := id I
  obtain ⟨W, C, M⟩ := id h1
  obtain ⟨b, rfl, hb⟩ := zi_ex x1
  have mb := m_isBlock M W hb
  have cb := c_isBlock C W hb
  by_cases q : 0 ≤ b ∧ b < v.1
  · rw [if_pos q, zl1] at mb cb
    have cl := c_isLoose C W q.1 q.2
    have ml := m_isIn M W q.1 q.2
    by_cases ql : v.2.2.1 b 2 = -1 ∧ v.2.2.1 b 4 = -1
    · rw [if_pos ql, zl1] at cl
      rw [if_pos ql] at ml
      refine ⟨zi (-3), δ, δ, ?_, ?_, I, rfl⟩
      · simp (disch := omega) only [F_Bs_take, ↓bnd_eq, bd2, bn2, Option.bind_some, Option.bind_none, cb, ↓bse cl, ↓reduceIte, inb, zl, zi_add, zi_sub, zi_mul, zi_neg, zi_le_t, zi_le_f, zi_lt_t, zi_lt_f, zi_eq_t, zi_eq_f, if_true, if_false, ite_true, ite_false, true_and, and_true, false_and, and_false, not_true_eq_false, not_false_eq_true, true_or, or_true, false_or, or_false, and_self, ge_iff_le, gt_iff_lt]
      · simp (disch := omega) only [F_M_take, ↓bnd_eq, bd2, bn2, Option.bind_some, Option.bind_none, mb, ↓bse ml, ↓reduceIte, inb, zl, zi_add, zi_sub, zi_mul, zi_neg, zi_le_t, zi_le_f, zi_lt_t, zi_lt_f, zi_eq_t, zi_eq_f, if_true, if_false, ite_true, ite_false, true_and, and_true, false_and, and_false, not_true_eq_false, not_false_eq_true, true_or, or_true, false_or, or_false, and_self, ge_iff_le, gt_iff_lt]
    · rw [if_neg ql, zl0] at cl
      rw [if_neg ql] at ml
      obtain ⟨d1, e1, C1, F1⟩ := c_detach C W q.1 q.2
      have M1' : MP d1 v := M.fr F1 (fun f q1 q2 e => absurd e.1 (by decide))
      have M1 : MP (sI d1 42 8 (zi 0)) v := M1'
      obtain ⟨d2, e2, M2, F2⟩ := m_leavesF M1 W q.1 q.2
      have mb' := m_isBlock M1 W hb
      have ml' := m_isIn M1 W q.1 q.2
      rw [if_pos q, zl1] at mb'
      rw [if_neg ql] at ml'
      have F : Fr SPr δ (sI d2 152 23 (zi (-1))) := (((frSP F1).sI (Or.inr (Or.inl ⟨rfl, rfl⟩))).tr (frSM F2)).sI (Or.inr (Or.inr ⟨rfl, Or.inr rfl⟩))
      have C2 : CP 1 d2 (lvV v b) := CP.fr (δ := sI d1 42 8 (zi 0)) C1 F2 (fun f q1 q2 e => by omega)
      refine ⟨zi 1, sI d1 42 8 (zi 0), sI d2 152 23 (zi (-1)), ?_, ?_, INV.prog h2 h3 hr F ⟨W.lv q.1 q.2, C2, M2⟩ ?_ sI_at, F.1 ▸ rfl⟩
      · simp (disch := omega) only [F_Bs_take, ↓bnd_eq, bd2, bn2, Option.bind_some, Option.bind_none, cb, ↓bse cl, ↓bse e1, ↓reduceIte, inb, zl, zi_add, zi_sub, zi_mul, zi_neg, zi_le_t, zi_le_f, zi_lt_t, zi_lt_f, zi_eq_t, zi_eq_f, if_true, if_false, ite_true, ite_false, true_and, and_true, false_and, and_false, not_true_eq_false, not_false_eq_true, true_or, or_true, false_or, or_false, and_self, ge_iff_le, gt_iff_lt]
      · simp (disch := omega) only [F_M_take, ↓bnd_eq, bd2, bn2, Option.bind_some, Option.bind_none, mb', ↓bse ml', ↓bse e2, ↓reduceIte, inb, zl, zi_add, zi_sub, zi_mul, zi_neg, zi_le_t, zi_le_f, zi_lt_t, zi_lt_f, zi_eq_t, zi_eq_f, if_true, if_false, ite_true, ite_false, true_and, and_true, false_and, and_false, not_true_eq_false, not_false_eq_true, true_or, or_true, false_or, or_false, and_self, ge_iff_le, gt_iff_lt]
      · show d2.1 42 8 = zi 0
        rw [(F2.2 42 8 (fun e => by omega)).1, sI_at]
  · rw [if_neg q, zl0] at mb cb
    refine ⟨zi (-1), δ, δ, ?_, ?_, I, rfl⟩
    · simp (disch := omega) only [F_Bs_take, ↓bnd_eq, bd2, bn2, Option.bind_some, Option.bind_none, cb, ↓reduceIte, inb, zl, zi_add, zi_sub, zi_mul, zi_neg, zi_le_t, zi_le_f, zi_lt_t, zi_lt_f, zi_eq_t, zi_eq_f, if_true, if_false, ite_true, ite_false, true_and, and_true, false_and, and_false, not_true_eq_false, not_false_eq_true, true_or, or_true, false_or, or_false, and_self, ge_iff_le, gt_iff_lt]
    · simp (disch := omega) only [F_M_take, ↓bnd_eq, bd2, bn2, Option.bind_some, Option.bind_none, mb, ↓reduceIte, inb, zl, zi_add, zi_sub, zi_mul, zi_neg, zi_le_t, zi_le_f, zi_lt_t, zi_lt_f, zi_eq_t, zi_eq_f, if_true, if_false, ite_true, ite_false, true_and, and_true, false_and, and_false, not_true_eq_false, not_false_eq_true, true_or, or_true, false_or, or_false, and_self, ge_iff_le, gt_iff_lt]
theorem st_number (x1 x2 : Int32) : S2 INV (F_Bs_number x1 x2) (F_M_number x1 x2) := by
  intro δ I
  obtain ⟨⟨v, g, h1, h2, h4⟩, ⟨kn, gk, h3⟩, hr⟩ := id I
  obtain ⟨W, C, M⟩ := id h1
  have hN := W.1
  obtain ⟨b, rfl, hb⟩ := zi_ex x1
  obtain ⟨n, rfl, hn⟩ := zi_ex x2
  have mb := m_isBlock M W hb
  have cb := c_isBlock C W hb
  by_cases q : 0 ≤ b ∧ b < v.1
  · rw [if_pos q, zl1] at mb cb
    have ck := c_kind C W q.1 q.2
    have cn := c_num C W q.1 q.2
    have hkk := W.k q.1 q.2
    obtain ⟨f0, f1, -⟩ := M.2.2.1 b q.1 q.2
    by_cases qk : v.2.2.1 b 0 = 1 ∨ v.2.2.1 b 0 = 6 ∨ v.2.2.1 b 0 = 13
    · have ch : F_Bs_hasNumber (zi (v.2.2.1 b 0)) = zi 1 := by
        rcases qk with e | e | e <;> rw [e] <;> decide
      have m34 : ∀ δ', MP δ' v → F_M_number (zi b) (zi n) δ' = F_M_number_34 (zi b) (zi n) (zi (v.2.2.1 b 0)) δ' := by
        intro δ' M'
        have mb' := m_isBlock M' W hb
        rw [if_pos q, zl1] at mb'
        obtain ⟨f0', -⟩ := M'.2.2.1 b q.1 q.2
        rcases qk with e | e | e
        · rw [e] at f0'; rw [e]; simp (disch := omega) only [F_M_number, ↓bnd_eq, bd2, bn2, Option.bind_some, Option.bind_none, mb', f0', ↓reduceIte, inb, zl, zi_add, zi_sub, zi_mul, zi_neg, zi_le_t, zi_le_f, zi_lt_t, zi_lt_f, zi_eq_t, zi_eq_f, if_true, if_false, ite_true, ite_false, true_and, and_true, false_and, and_false, not_true_eq_false, not_false_eq_true, true_or, or_true, false_or, or_false, and_self, ge_iff_le, gt_iff_lt]
        · rw [e] at f0'; rw [e]; simp (disch := omega) only [F_M_number, ↓bnd_eq, bd2, bn2, Option.bind_some, Option.bind_none, mb', f0', ↓reduceIte, inb, zl, zi_add, zi_sub, zi_mul, zi_neg, zi_le_t, zi_le_f, zi_lt_t, zi_lt_f, zi_eq_t, zi_eq_f, if_true, if_false, ite_true, ite_false, true_and, and_true, false_and, and_false, not_true_eq_false, not_false_eq_true, true_or, or_true, false_or, or_false, and_self, ge_iff_le, gt_iff_lt]
        · rw [e] at f0'; rw [e]; simp (disch := omega) only [F_M_number, ↓bnd_eq, bd2, bn2, Option.bind_some, Option.bind_none, mb', f0', ↓reduceIte, inb, zl, zi_add, zi_sub, zi_mul, zi_neg, zi_le_t, zi_le_f, zi_lt_t, zi_lt_f, zi_eq_t, zi_eq_f, if_true, if_false, ite_true, ite_false, true_and, and_true, false_and, and_false, not_true_eq_false, not_false_eq_true, true_or, or_true, false_or, or_false, and_self, ge_iff_le, gt_iff_lt]
      rcases num_of hkk hn with ⟨a1, a2, a3, a4⟩ | ⟨a1, a2⟩
      · have E1 : F_Pr_setNumber 1 (zi b) (zi n) δ = some (sA δ 32 1 (zi (b * 5 + 1)) (zi n)) := by simp (disch := omega) only [F_Pr_setNumber, ↓bnd_eq, bd2, bn2, Option.bind_some, Option.bind_none, C.1, ↓reduceIte, inb, zl, zi_add, zi_sub, zi_mul, zi_neg, zi_le_t, zi_le_f, zi_lt_t, zi_lt_f, zi_eq_t, zi_eq_f, if_true, if_false, ite_true, ite_false, true_and, and_true, false_and, and_false, not_true_eq_false, not_false_eq_true, true_or, or_true, false_or, or_false, and_self, ge_iff_le, gt_iff_lt]
        have C1 : CP 1 (sA δ 32 1 (zi (b * 5 + 1)) (zi n)) (vset v b 1 n) := C.vset hN.2 n q.1 q.2 (by decide) (by decide)
        have M0 : MP (sI (sA δ 32 1 (zi (b * 5 + 1)) (zi n)) 42 8 (zi 0)) v := M
        have M1 : MP (sA (sI (sA δ 32 1 (zi (b * 5 + 1)) (zi n)) 42 8 (zi 0)) 120 23 (zi b) (zi n)) (vset v b 1 n) := M0.n hN.2 n q.1 q.2
        have F : Fr SPr δ (sI (sA (sI (sA δ 32 1 (zi (b * 5 + 1)) (zi n)) 42 8 (zi 0)) 120 23 (zi b) (zi n)) 152 23 (zi (-1))) := (((Fr.rf.sA (Or.inl ⟨rfl, by decide, by decide⟩)).sI (Or.inr (Or.inl ⟨rfl, rfl⟩))).sA (Or.inr (Or.inr ⟨rfl, Or.inl ⟨by decide, by decide⟩⟩))).sI (Or.inr (Or.inr ⟨rfl, Or.inr rfl⟩))
        obtain ⟨-, f1', -⟩ := M0.2.2.1 b q.1 q.2
        refine ⟨zi (v.2.2.1 b 1), sI (sA δ 32 1 (zi (b * 5 + 1)) (zi n)) 42 8 (zi 0), sI (sA (sI (sA δ 32 1 (zi (b * 5 + 1)) (zi n)) 42 8 (zi 0)) 120 23 (zi b) (zi n)) 152 23 (zi (-1)), ?_, ?_, INV.prog h2 h3 hr F ⟨W.num q.1 q.2 a3 a4, C1, M1⟩ rfl sI_at, rfl⟩
        · simp (disch := omega) only [F_Bs_number, ↓bnd_eq, bd2, bn2, Option.bind_some, Option.bind_none, cb, ↓bse ck, ch, a1, ↓bse cn, ↓bse E1, ↓reduceIte, inb, zl, zi_add, zi_sub, zi_mul, zi_neg, zi_le_t, zi_le_f, zi_lt_t, zi_lt_f, zi_eq_t, zi_eq_f, if_true, if_false, ite_true, ite_false, true_and, and_true, false_and, and_false, not_true_eq_false, not_false_eq_true, true_or, or_true, false_or, or_false, and_self, ge_iff_le, gt_iff_lt]
        · rw [m34 _ M0]
          simp (disch := omega) only [F_M_number_34, ↓bnd_eq, bd2, bn2, Option.bind_some, Option.bind_none, a2, f1', ↓reduceIte, inb, zl, zi_add, zi_sub, zi_mul, zi_neg, zi_le_t, zi_le_f, zi_lt_t, zi_lt_f, zi_eq_t, zi_eq_f, if_true, if_false, ite_true, ite_false, true_and, and_true, false_and, and_false, not_true_eq_false, not_false_eq_true, true_or, or_true, false_or, or_false, and_self, ge_iff_le, gt_iff_lt]
      · refine ⟨zi (-2), δ, δ, ?_, ?_, I, rfl⟩
        · simp (disch := omega) only [F_Bs_number, ↓bnd_eq, bd2, bn2, Option.bind_some, Option.bind_none, cb, ↓bse ck, ch, a1, ↓reduceIte, inb, zl, zi_add, zi_sub, zi_mul, zi_neg, zi_le_t, zi_le_f, zi_lt_t, zi_lt_f, zi_eq_t, zi_eq_f, if_true, if_false, ite_true, ite_false, true_and, and_true, false_and, and_false, not_true_eq_false, not_false_eq_true, true_or, or_true, false_or, or_false, and_self, ge_iff_le, gt_iff_lt]
        · rw [m34 _ M]
          simp (disch := omega) only [F_M_number_34, ↓bnd_eq, bd2, bn2, Option.bind_some, Option.bind_none, a2, ↓reduceIte, inb, zl, zi_add, zi_sub, zi_mul, zi_neg, zi_le_t, zi_le_f, zi_lt_t, zi_lt_f, zi_eq_t, zi_eq_f, if_true, if_false, ite_true, ite_false, true_and, and_true, false_and, and_false, not_true_eq_false, not_false_eq_true, true_or, or_true, false_or, or_false, and_self, ge_iff_le, gt_iff_lt]
    · have ch : F_Bs_hasNumber (zi (v.2.2.1 b 0)) = zi 0 := by simp (disch := omega) only [F_Bs_hasNumber, ↓reduceIte, inb, zl, zi_add, zi_sub, zi_mul, zi_neg, zi_le_t, zi_le_f, zi_lt_t, zi_lt_f, zi_eq_t, zi_eq_f, if_true, if_false, ite_true, ite_false, true_and, and_true, false_and, and_false, not_true_eq_false, not_false_eq_true, true_or, or_true, false_or, or_false, and_self, ge_iff_le, gt_iff_lt]
      refine ⟨zi (-2), δ, δ, ?_, ?_, I, rfl⟩
      · simp (disch := omega) only [F_Bs_number, ↓bnd_eq, bd2, bn2, Option.bind_some, Option.bind_none, cb, ↓bse ck, ch, ↓reduceIte, inb, zl, zi_add, zi_sub, zi_mul, zi_neg, zi_le_t, zi_le_f, zi_lt_t, zi_lt_f, zi_eq_t, zi_eq_f, if_true, if_false, ite_true, ite_false, true_and, and_true, false_and, and_false, not_true_eq_false, not_false_eq_true, true_or, or_true, false_or, or_false, and_self, ge_iff_le, gt_iff_lt]
      · simp (disch := omega) only [F_M_number, ↓bnd_eq, bd2, bn2, Option.bind_some, Option.bind_none, mb, f0, ↓reduceIte, inb, zl, zi_add, zi_sub, zi_mul, zi_neg, zi_le_t, zi_le_f, zi_lt_t, zi_lt_f, zi_eq_t, zi_eq_f, if_true, if_false, ite_true, ite_false, true_and, and_true, false_and, and_false, not_true_eq_false, not_false_eq_true, true_or, or_true, false_or, or_false, and_self, ge_iff_le, gt_iff_lt]
  · rw [if_neg q, zl0] at mb cb
    refine ⟨zi (-1), δ, δ, ?_, ?_, I, rfl⟩
    · simp (disch := omega) only [F_Bs_number, ↓bnd_eq, bd2, bn2, Option.bind_some, Option.bind_none, cb, ↓reduceIte, inb, zl, zi_add, zi_sub, zi_mul, zi_neg, zi_le_t, zi_le_f, zi_lt_t, zi_lt_f, zi_eq_t, zi_eq_f, if_true, if_false, ite_true, ite_false, true_and, and_true, false_and, and_false, not_true_eq_false, not_false_eq_true, true_or, or_true, false_or, or_false, and_self, ge_iff_le, gt_iff_lt]
    · simp (disch := omega) only [F_M_number, ↓bnd_eq, bd2, bn2, Option.bind_some, Option.bind_none, mb, ↓reduceIte, inb, zl, zi_add, zi_sub, zi_mul, zi_neg, zi_le_t, zi_le_f, zi_lt_t, zi_lt_f, zi_eq_t, zi_eq_f, if_true, if_false, ite_true, ite_false, true_and, and_true, false_and, and_false, not_true_eq_false, not_false_eq_true, true_or, or_true, false_or, or_false, and_self, ge_iff_le, gt_iff_lt]
theorem st_top (x1 x2 : Int32) : S2 INV (F_Bs_top x1 x2) (F_M_top x1 x2) := by
  intro δ I
  obtain ⟨⟨v, g, h1, h2, h4⟩, ⟨kn, gk, h3⟩, hr⟩ := id I
  obtain ⟨W, C, M⟩ := id h1
  have hN := W.1
  have hM := W.2.1
  obtain ⟨s, rfl, hs⟩ := zi_ex x1
  obtain ⟨b, rfl, hb⟩ := zi_ex x2
  have mb := m_isBlock M W hb
  have cb := c_isBlock C W hb
  have ms := m_isScript M W hs
  have cs := c_isScript C W hs
  by_cases qs : 0 ≤ s ∧ s < v.2.1
  · rw [if_pos qs, zl1] at ms cs
    by_cases q : 0 ≤ b ∧ b < v.1
    · rw [if_pos q, zl1] at mb cb
      have ct := c_topOf C W qs.1 qs.2
      have htp := W.tp qs.1 qs.2
      obtain ⟨t0, t1, t2, t3, t4⟩ := M.2.2.2.2 s qs.1 qs.2
      by_cases qt : v.2.2.2.2 s 4 = -1
      · rw [qt] at ct t4
        have cl := c_isLoose C W q.1 q.2
        have ml := m_isIn M W q.1 q.2
        by_cases ql : v.2.2.1 b 2 = -1 ∧ v.2.2.1 b 4 = -1
        · rw [if_pos ql, zl1] at cl
          rw [if_pos ql] at ml
          have ck := c_kind C W q.1 q.2
          have hkk := W.k q.1 q.2
          obtain ⟨f0, -⟩ := M.2.2.1 b q.1 q.2
          by_cases qk : v.2.2.1 b 0 ≤ 12
          · have co : F_Bs_isOrder (zi (v.2.2.1 b 0)) = zi 1 := by simp (disch := omega) only [F_Bs_isOrder, ↓reduceIte, inb, zl, zi_add, zi_sub, zi_mul, zi_neg, zi_le_t, zi_le_f, zi_lt_t, zi_lt_f, zi_eq_t, zi_eq_f, if_true, if_false, ite_true, ite_false, true_and, and_true, false_and, and_false, not_true_eq_false, not_false_eq_true, true_or, or_true, false_or, or_false, and_self, ge_iff_le, gt_iff_lt]
            have mo : F_M_isOrder (zi (v.2.2.1 b 0)) = zi 1 := by simp (disch := omega) only [F_M_isOrder, ↓reduceIte, inb, zl, zi_add, zi_sub, zi_mul, zi_neg, zi_le_t, zi_le_f, zi_lt_t, zi_lt_f, zi_eq_t, zi_eq_f, if_true, if_false, ite_true, ite_false, true_and, and_true, false_and, and_false, not_true_eq_false, not_false_eq_true, true_or, or_true, false_or, or_false, and_self, ge_iff_le, gt_iff_lt]
            obtain ⟨d1, e1, C1, F1⟩ := c_attachTop C hN.2 hM.2 qs.1 qs.2 q.1 q.2
            have M1' : MP d1 v := M.fr F1 (fun f q1 q2 e => absurd e.1 (by decide))
            have M1 : MP (sI d1 42 8 (zi 0)) v := M1'
            have mb' := m_isBlock M1 W hb
            have ms' := m_isScript M1 W hs
            have ml' := m_isIn M1 W q.1 q.2
            rw [if_pos q, zl1] at mb'
            rw [if_pos qs, zl1] at ms'
            rw [if_pos ql] at ml'
            obtain ⟨f0', -⟩ := M1.2.2.1 b q.1 q.2
            obtain ⟨-, -, -, -, t4'⟩ := M1.2.2.2.2 s qs.1 qs.2
            rw [qt] at t4'
            have M2 : MP (sA (sA (sI d1 42 8 (zi 0)) 130 23 (zi s) (zi b)) 124 23 (zi b) (zi s)) (topV v s b) := (M1.tp hM.2 b qs.1 qs.2).t hN.2 s q.1 q.2
            have F : Fr SPr δ (sI (sA (sA (sI d1 42 8 (zi 0)) 130 23 (zi s) (zi b)) 124 23 (zi b) (zi s)) 152 23 (zi (-1))) := ((((frSP F1).sI (Or.inr (Or.inl ⟨rfl, rfl⟩))).sA (Or.inr (Or.inr ⟨rfl, Or.inl ⟨by decide, by decide⟩⟩))).sA (Or.inr (Or.inr ⟨rfl, Or.inl ⟨by decide, by decide⟩⟩))).sI (Or.inr (Or.inr ⟨rfl, Or.inr rfl⟩))
            refine ⟨zi 1, sI d1 42 8 (zi 0), sI (sA (sA (sI d1 42 8 (zi 0)) 130 23 (zi s) (zi b)) 124 23 (zi b) (zi s)) 152 23 (zi (-1)), ?_, ?_, INV.prog h2 h3 hr F ⟨W.top qs.1 qs.2 q.1 q.2 qt ql.1 ql.2 qk, C1, M2⟩ ?_ sI_at, F.1 ▸ rfl⟩
            · simp (disch := omega) only [F_Bs_top, ↓bnd_eq, bd2, bn2, Option.bind_some, Option.bind_none, cs, cb, ↓bse ct, ↓bse cl, ↓bse ck, co, ↓bse e1, ↓reduceIte, inb, zl, zi_add, zi_sub, zi_mul, zi_neg, zi_le_t, zi_le_f, zi_lt_t, zi_lt_f, zi_eq_t, zi_eq_f, if_true, if_false, ite_true, ite_false, true_and, and_true, false_and, and_false, not_true_eq_false, not_false_eq_true, true_or, or_true, false_or, or_false, and_self, ge_iff_le, gt_iff_lt]
            · simp (disch := omega) only [F_M_top, ↓bnd_eq, bd2, bn2, Option.bind_some, Option.bind_none, ms', mb', t4', ↓bse ml', f0', mo, ↓reduceIte, inb, zl, zi_add, zi_sub, zi_mul, zi_neg, zi_le_t, zi_le_f, zi_lt_t, zi_lt_f, zi_eq_t, zi_eq_f, if_true, if_false, ite_true, ite_false, true_and, and_true, false_and, and_false, not_true_eq_false, not_false_eq_true, true_or, or_true, false_or, or_false, and_self, ge_iff_le, gt_iff_lt]
            · show (sI d1 42 8 (zi 0)).1 42 8 = zi 0
              exact sI_at
          · have co : F_Bs_isOrder (zi (v.2.2.1 b 0)) = zi 0 := by simp (disch := omega) only [F_Bs_isOrder, ↓reduceIte, inb, zl, zi_add, zi_sub, zi_mul, zi_neg, zi_le_t, zi_le_f, zi_lt_t, zi_lt_f, zi_eq_t, zi_eq_f, if_true, if_false, ite_true, ite_false, true_and, and_true, false_and, and_false, not_true_eq_false, not_false_eq_true, true_or, or_true, false_or, or_false, and_self, ge_iff_le, gt_iff_lt]
            have mo : F_M_isOrder (zi (v.2.2.1 b 0)) = zi 0 := by simp (disch := omega) only [F_M_isOrder, ↓reduceIte, inb, zl, zi_add, zi_sub, zi_mul, zi_neg, zi_le_t, zi_le_f, zi_lt_t, zi_lt_f, zi_eq_t, zi_eq_f, if_true, if_false, ite_true, ite_false, true_and, and_true, false_and, and_false, not_true_eq_false, not_false_eq_true, true_or, or_true, false_or, or_false, and_self, ge_iff_le, gt_iff_lt]
            refine ⟨zi (-2), δ, δ, ?_, ?_, I, rfl⟩
            · simp (disch := omega) only [F_Bs_top, ↓bnd_eq, bd2, bn2, Option.bind_some, Option.bind_none, cs, cb, ↓bse ct, ↓bse cl, ↓bse ck, co, ↓reduceIte, inb, zl, zi_add, zi_sub, zi_mul, zi_neg, zi_le_t, zi_le_f, zi_lt_t, zi_lt_f, zi_eq_t, zi_eq_f, if_true, if_false, ite_true, ite_false, true_and, and_true, false_and, and_false, not_true_eq_false, not_false_eq_true, true_or, or_true, false_or, or_false, and_self, ge_iff_le, gt_iff_lt]
            · simp (disch := omega) only [F_M_top, ↓bnd_eq, bd2, bn2, Option.bind_some, Option.bind_none, ms, mb, t4, ↓bse ml, f0, mo, ↓reduceIte, inb, zl, zi_add, zi_sub, zi_mul, zi_neg, zi_le_t, zi_le_f, zi_lt_t, zi_lt_f, zi_eq_t, zi_eq_f, if_true, if_false, ite_true, ite_false, true_and, and_true, false_and, and_false, not_true_eq_false, not_false_eq_true, true_or, or_true, false_or, or_false, and_self, ge_iff_le, gt_iff_lt]
        · rw [if_neg ql, zl0] at cl
          rw [if_neg ql] at ml
          refine ⟨zi (-3), δ, δ, ?_, ?_, I, rfl⟩
          · simp (disch := omega) only [F_Bs_top, ↓bnd_eq, bd2, bn2, Option.bind_some, Option.bind_none, cs, cb, ↓bse ct, ↓bse cl, ↓reduceIte, inb, zl, zi_add, zi_sub, zi_mul, zi_neg, zi_le_t, zi_le_f, zi_lt_t, zi_lt_f, zi_eq_t, zi_eq_f, if_true, if_false, ite_true, ite_false, true_and, and_true, false_and, and_false, not_true_eq_false, not_false_eq_true, true_or, or_true, false_or, or_false, and_self, ge_iff_le, gt_iff_lt]
          · simp (disch := omega) only [F_M_top, ↓bnd_eq, bd2, bn2, Option.bind_some, Option.bind_none, ms, mb, t4, ↓bse ml, ↓reduceIte, inb, zl, zi_add, zi_sub, zi_mul, zi_neg, zi_le_t, zi_le_f, zi_lt_t, zi_lt_f, zi_eq_t, zi_eq_f, if_true, if_false, ite_true, ite_false, true_and, and_true, false_and, and_false, not_true_eq_false, not_false_eq_true, true_or, or_true, false_or, or_false, and_self, ge_iff_le, gt_iff_lt]
      · refine ⟨zi (-3), δ, δ, ?_, ?_, I, rfl⟩
        · simp (disch := omega) only [F_Bs_top, ↓bnd_eq, bd2, bn2, Option.bind_some, Option.bind_none, cs, cb, ↓bse ct, ↓reduceIte, inb, zl, zi_add, zi_sub, zi_mul, zi_neg, zi_le_t, zi_le_f, zi_lt_t, zi_lt_f, zi_eq_t, zi_eq_f, if_true, if_false, ite_true, ite_false, true_and, and_true, false_and, and_false, not_true_eq_false, not_false_eq_true, true_or, or_true, false_or, or_false, and_self, ge_iff_le, gt_iff_lt]
        · simp (disch := omega) only [F_M_top, ↓bnd_eq, bd2, bn2, Option.bind_some, Option.bind_none, ms, mb, t4, ↓reduceIte, inb, zl, zi_add, zi_sub, zi_mul, zi_neg, zi_le_t, zi_le_f, zi_lt_t, zi_lt_f, zi_eq_t, zi_eq_f, if_true, if_false, ite_true, ite_false, true_and, and_true, false_and, and_false, not_true_eq_false, not_false_eq_true, true_or, or_true, false_or, or_false, and_self, ge_iff_le, gt_iff_lt]
    · rw [if_neg q, zl0] at mb cb
      refine ⟨zi (-1), δ, δ, ?_, ?_, I, rfl⟩
      · simp (disch := omega) only [F_Bs_top, ↓bnd_eq, bd2, bn2, Option.bind_some, Option.bind_none, cs, cb, ↓reduceIte, inb, zl, zi_add, zi_sub, zi_mul, zi_neg, zi_le_t, zi_le_f, zi_lt_t, zi_lt_f, zi_eq_t, zi_eq_f, if_true, if_false, ite_true, ite_false, true_and, and_true, false_and, and_false, not_true_eq_false, not_false_eq_true, true_or, or_true, false_or, or_false, and_self, ge_iff_le, gt_iff_lt]
      · simp (disch := omega) only [F_M_top, ↓bnd_eq, bd2, bn2, Option.bind_some, Option.bind_none, ms, mb, ↓reduceIte, inb, zl, zi_add, zi_sub, zi_mul, zi_neg, zi_le_t, zi_le_f, zi_lt_t, zi_lt_f, zi_eq_t, zi_eq_f, if_true, if_false, ite_true, ite_false, true_and, and_true, false_and, and_false, not_true_eq_false, not_false_eq_true, true_or, or_true, false_or, or_false, and_self, ge_iff_le, gt_iff_lt]
  · rw [if_neg qs, zl0] at ms cs
    refine ⟨zi (-1), δ, δ, ?_, ?_, I, rfl⟩
    · simp (disch := omega) only [F_Bs_top, ↓bnd_eq, bd2, bn2, Option.bind_some, Option.bind_none, cs, ↓reduceIte, inb, zl, zi_add, zi_sub, zi_mul, zi_neg, zi_le_t, zi_le_f, zi_lt_t, zi_lt_f, zi_eq_t, zi_eq_f, if_true, if_false, ite_true, ite_false, true_and, and_true, false_and, and_false, not_true_eq_false, not_false_eq_true, true_or, or_true, false_or, or_false, and_self, ge_iff_le, gt_iff_lt]
    · simp (disch := omega) only [F_M_top, ↓bnd_eq, bd2, bn2, Option.bind_some, Option.bind_none, ms, ↓reduceIte, inb, zl, zi_add, zi_sub, zi_mul, zi_neg, zi_le_t, zi_le_f, zi_lt_t, zi_lt_f, zi_eq_t, zi_eq_f, if_true, if_false, ite_true, ite_false, true_and, and_true, false_and, and_false, not_true_eq_false, not_false_eq_true, true_or, or_true, false_or, or_false, and_self, ge_iff_le, gt_iff_lt]
theorem fit_d1 : ∀ k : Nat, k < 23 → ∀ h : Nat, h < 5 → ∀ o : Nat, o < 23 → F_Bs_fits (zi k) (zi h) (zi o) = F_M_fits (zi o) (zi h) (zi k) := by decide +kernel
theorem fit_d2 : ∀ k : Nat, k < 23 → ∀ h : Nat, h < 5 → ∀ o : Nat, o < 23 → (F_Bs_fits (zi k) (zi h) (zi o) == zi 0 || (F_Bs_fits (zi k) (zi h) (zi o) == zi 1 && ((decide (h ≤ 2) && decide (o ≤ 12)) || (decide (3 ≤ h) && decide (13 ≤ o))))) = true := by decide +kernel
theorem fit_of {k h o : Int} (hk : 0 ≤ k ∧ k ≤ 22) (hh : 0 ≤ h ∧ h < 5) (ho : 0 ≤ o ∧ o ≤ 22) : (F_Bs_fits (zi k) (zi h) (zi o) = zi 0 ∧ F_M_fits (zi o) (zi h) (zi k) = zi 0) ∨ (F_Bs_fits (zi k) (zi h) (zi o) = zi 1 ∧ F_M_fits (zi o) (zi h) (zi k) = zi 1 ∧ ((h ≤ 2 ∧ o ≤ 12) ∨ (3 ≤ h ∧ 13 ≤ o))) := by
  have a1 := fit_d1 k.toNat (by omega) h.toNat (by omega) o.toNat (by omega)
  have a2 := fit_d2 k.toNat (by omega) h.toNat (by omega) o.toNat (by omega)
  rw [Int.toNat_of_nonneg hk.1, Int.toNat_of_nonneg hh.1, Int.toNat_of_nonneg ho.1] at a1 a2
  simp only [Bool.or_eq_true, Bool.and_eq_true, beq_iff_eq, decide_eq_true_eq] at a2
  rcases a2 with a2 | ⟨a2, a3⟩
  · exact Or.inl ⟨a2, a1.symm.trans a2⟩
  · exact Or.inr ⟨a2, a1.symm.trans a2, by omega⟩
theorem st_join (x1 x2 x3 : Int32) : S2 INV (F_Bs_join x1 x2 x3) (F_M_join x1 x2 x3) := by
  intro δ I
  obtain ⟨⟨v, g, h1, h2, h4⟩, ⟨kn, gk, h3⟩, hr⟩ := id I
  obtain ⟨W, C, M⟩ := id h1
  have hN := W.1
  obtain ⟨b, rfl, hb⟩ := zi_ex x1
  obtain ⟨h, rfl, hh⟩ := zi_ex x2
  obtain ⟨o, rfl, ho⟩ := zi_ex x3
  have mb := fun δ' (M' : MP δ' v) => m_isBlock M' W hb
  have cb := c_isBlock C W hb
  have mo := fun δ' (M' : MP δ' v) => m_isBlock M' W ho
  have co := c_isBlock C W ho
  by_cases q : 0 ≤ b ∧ b < v.1
  · rw [if_pos q, zl1] at cb
    simp only [if_pos q, zl1] at mb
    by_cases qo : 0 ≤ o ∧ o < v.1
    · rw [if_pos qo, zl1] at co
      simp only [if_pos qo, zl1] at mo
      have ch := c_hasHole C W q.1 q.2 hh
      have f0 := fun δ' (M' : MP δ' v) => (M'.2.2.1 b q.1 q.2).1
      rcases m_hasHole (W.k q.1 q.2) hh with ⟨e, e'⟩ | ⟨e, e'⟩
      · rw [e, zl1] at ch
        rw [zl1] at e
        have h5 : 0 ≤ h ∧ h < 5 := by unfold HH at e'; omega
        have ci := c_inHole C W q.1 q.2 h5.1 h5.2
        have gh := fun δ' (M' : MP δ' v) => M'.2.2.2.1 b h q.1 q.2 h5.1 h5.2
        have hhr := W.h q.1 q.2 h5.1 h5.2
        by_cases qh : v.2.2.2.1 b h = -1
        · simp only [qh] at ci gh
          have cl := c_isLoose C W qo.1 qo.2
          have ml := fun δ' (M' : MP δ' v) => m_isIn M' W qo.1 qo.2
          by_cases ql : v.2.2.1 o 2 = -1 ∧ v.2.2.1 o 4 = -1
          · rw [if_pos ql, zl1] at cl
            simp only [if_pos ql] at ml
            have ckb := c_kind C W q.1 q.2
            have cko := c_kind C W qo.1 qo.2
            have f0o := fun δ' (M' : MP δ' v) => (M'.2.2.1 o qo.1 qo.2).1
            obtain ⟨n, n1, n2, n3⟩ := root_ex W q.1 q.2
            have hrt := n2 n (Nat.le_refl _)
            have f2r := fun δ' (M' : MP δ' v) => (M'.2.2.1 (anc v b n) hrt.1 hrt.2).2.2.1
            simp only [show v.2.2.1 (anc v b n) 2 = -1 from n3] at f2r
            have mj : ∀ δ', MP δ' v → ∃ fu', F_M_join (zi b) (zi h) (zi o) δ' = F_M_join_59 (zi b) (zi h) (zi o) (fu' + 1) (zi (anc v b n)) δ' := by
              intro δ' M'
              obtain ⟨fu', ej⟩ := m_root_l (x1 := zi b) (x2 := zi h) (x3 := zi o) M' W n b FU n2 n3 (by unfold FU; omega)
              refine ⟨fu', ?_⟩
              rw [← ej]
              have a1 := mb δ' M'
              have a2 := mo δ' M'
              have a3 := f0 δ' M'
              have a4 := gh δ' M'
              have a5 := ml δ' M'
              simp (disch := omega) only [F_M_join, ↓bnd_eq, bd2, bn2, Option.bind_some, Option.bind_none, a1, a2, a3, e, a4, ↓bse a5, ↓reduceIte, inb, zl, zi_add, zi_sub, zi_mul, zi_neg, zi_le_t, zi_le_f, zi_lt_t, zi_lt_f, zi_eq_t, zi_eq_f, if_true, if_false, ite_true, ite_false, true_and, and_true, false_and, and_false, not_true_eq_false, not_false_eq_true, true_or, or_true, false_or, or_false, and_self, ge_iff_le, gt_iff_lt]
            have cw := c_within_l C W qo.1 qo.2 (b0 := b) n b 0 n FU n2 n3 (by omega) (by omega) (by omega) (by unfold FU; omega)
            have ew : F_Pr_isWithin 1 (zi b) (zi o) δ = F_Pr_isWithin_5 1 (zi b) (zi o) FU (zi b) (zi 0) δ := by unfold F_Pr_isWithin; rw [zl0]
            rcases fit_of (W.k q.1 q.2) h5 (W.k qo.1 qo.2) with ⟨c0, m0⟩ | ⟨c1, m1, fk⟩
            · obtain ⟨fu', ej⟩ := mj δ M
              have a1 := f2r δ M
              have a2 := f0 δ M
              have a3 := f0o δ M
              refine ⟨zi (-2), δ, δ, ?_, ?_, I, rfl⟩
              · simp (disch := omega) only [F_Bs_join, ↓bnd_eq, bd2, bn2, Option.bind_some, Option.bind_none, cb, co, ↓bse ch, ↓bse ci, ↓bse cl, ↓bse ckb, ↓bse cko, c0, ↓reduceIte, inb, zl, zi_add, zi_sub, zi_mul, zi_neg, zi_le_t, zi_le_f, zi_lt_t, zi_lt_f, zi_eq_t, zi_eq_f, if_true, if_false, ite_true, ite_false, true_and, and_true, false_and, and_false, not_true_eq_false, not_false_eq_true, true_or, or_true, false_or, or_false, and_self, ge_iff_le, gt_iff_lt]
              · rw [ej]
                simp (disch := omega) only [F_M_join_59, F_M_join_59_b, ↓bnd_eq, bd2, bn2, Option.bind_some, Option.bind_none, a1, a2, a3, m0, ↓reduceIte, inb, zl, zi_add, zi_sub, zi_mul, zi_neg, zi_le_t, zi_le_f, zi_lt_t, zi_lt_f, zi_eq_t, zi_eq_f, if_true, if_false, ite_true, ite_false, true_and, and_true, false_and, and_false, not_true_eq_false, not_false_eq_true, true_or, or_true, false_or, or_false, and_self, ge_iff_le, gt_iff_lt]
            · rcases cw with ⟨w1, j, hj, hjo⟩ | ⟨w0, wn⟩
              · have hjn : j = n := by
                  by_cases e2 : j = n
                  · exact e2
                  · exfalso
                    have e3 : anc v b (j + 1) = v.2.2.1 (anc v b j) 2 := rfl
                    rw [hjo, ql.1] at e3
                    have := n2 (j + 1) (by omega)
                    omega
                subst hjn
                obtain ⟨fu', ej⟩ := mj δ M
                have a1 := f2r δ M
                have a2 := f0 δ M
                have a3 := f0o δ M
                rw [← ew, zl1] at w1
                refine ⟨zi (-2), δ, δ, ?_, ?_, I, rfl⟩
                · simp (disch := omega) only [F_Bs_join, ↓bnd_eq, bd2, bn2, Option.bind_some, Option.bind_none, cb, co, ↓bse ch, ↓bse ci, ↓bse cl, ↓bse ckb, ↓bse cko, c1, ↓bse w1, ↓reduceIte, inb, zl, zi_add, zi_sub, zi_mul, zi_neg, zi_le_t, zi_le_f, zi_lt_t, zi_lt_f, zi_eq_t, zi_eq_f, if_true, if_false, ite_true, ite_false, true_and, and_true, false_and, and_false, not_true_eq_false, not_false_eq_true, true_or, or_true, false_or, or_false, and_self, ge_iff_le, gt_iff_lt]
                · rw [ej]
                  rw [hjo] at a1 ⊢
                  simp (disch := omega) only [F_M_join_59, F_M_join_59_b, ↓bnd_eq, bd2, bn2, Option.bind_some, Option.bind_none, a1, a2, a3, m1, ↓reduceIte, inb, zl, zi_add, zi_sub, zi_mul, zi_neg, zi_le_t, zi_le_f, zi_lt_t, zi_lt_f, zi_eq_t, zi_eq_f, if_true, if_false, ite_true, ite_false, true_and, and_true, false_and, and_false, not_true_eq_false, not_false_eq_true, true_or, or_true, false_or, or_false, and_self, ge_iff_le, gt_iff_lt]
              · rw [← ew, zl0] at w0
                obtain ⟨d1, e1, C1, F1⟩ := c_attach C hN.2 q.1 q.2 h5.1 h5.2 qo.1 qo.2
                have M1' : MP d1 v := M.fr F1 (fun f q1 q2 e => absurd e.1 (by decide))
                have M1 : MP (sI d1 42 8 (zi 0)) v := M1'
                obtain ⟨d2, e2, M2, F2⟩ := m_putsF M1 hN.2 q.1 q.2 h5.1 h5.2 qo.1 qo.2
                obtain ⟨fu', ej⟩ := mj _ M1
                have a1 := f2r _ M1
                have a2 := f0 _ M1
                have a3 := f0o _ M1
                have hne : ¬ anc v b n = o := wn n (Nat.le_refl _)
                have F : Fr SPr δ (sI d2 152 23 (zi (-1))) := (((frSP F1).sI (Or.inr (Or.inl ⟨rfl, rfl⟩))).tr (frSM F2)).sI (Or.inr (Or.inr ⟨rfl, Or.inr rfl⟩))
                have C2 : CP 1 d2 (attV v b h o) := CP.fr (δ := sI d1 42 8 (zi 0)) C1 F2 (fun f q1 q2 e => by omega)
                have W2 : PW (attV v b h o) := W.att q.1 q.2 h5.1 h5.2 qo.1 qo.2 qh ql.1 ql.2 e' (fun e => by omega) (fun e => by omega) (fun x => ∃ j, j ≤ n ∧ anc v b j = x) ⟨0, Nat.zero_le _, rfl⟩ (fun x x0 x1 hx hu => by
                  obtain ⟨j, j1, rfl⟩ := hx
                  by_cases e3 : j = n
                  · subst e3; exact absurd n3 hu
                  · exact ⟨j + 1, by omega, rfl⟩) (fun hx => by
                  obtain ⟨j, j1, j2⟩ := hx
                  exact wn j j1 j2)
                refine ⟨zi 1, sI d1 42 8 (zi 0), sI d2 152 23 (zi (-1)), ?_, ?_, INV.prog h2 h3 hr F ⟨W2, C2, M2⟩ ?_ sI_at, F.1 ▸ rfl⟩
                · simp (disch := omega) only [F_Bs_join, ↓bnd_eq, bd2, bn2, Option.bind_some, Option.bind_none, cb, co, ↓bse ch, ↓bse ci, ↓bse cl, ↓bse ckb, ↓bse cko, c1, ↓bse w0, ↓bse e1, ↓reduceIte, inb, zl, zi_add, zi_sub, zi_mul, zi_neg, zi_le_t, zi_le_f, zi_lt_t, zi_lt_f, zi_eq_t, zi_eq_f, if_true, if_false, ite_true, ite_false, true_and, and_true, false_and, and_false, not_true_eq_false, not_false_eq_true, true_or, or_true, false_or, or_false, and_self, ge_iff_le, gt_iff_lt]
                · rw [ej]
                  simp (disch := omega) only [F_M_join_59, F_M_join_59_b, ↓bnd_eq, bd2, bn2, Option.bind_some, Option.bind_none, a1, a2, a3, m1, ↓bse e2, ↓reduceIte, inb, zl, zi_add, zi_sub, zi_mul, zi_neg, zi_le_t, zi_le_f, zi_lt_t, zi_lt_f, zi_eq_t, zi_eq_f, if_true, if_false, ite_true, ite_false, true_and, and_true, false_and, and_false, not_true_eq_false, not_false_eq_true, true_or, or_true, false_or, or_false, and_self, ge_iff_le, gt_iff_lt]
                · show d2.1 42 8 = zi 0
                  rw [(F2.2 42 8 (fun e => by omega)).1, sI_at]
          · rw [if_neg ql, zl0] at cl
            have ml1 := ml δ M
            rw [if_neg ql] at ml1
            have a1 := mb δ M
            have a2 := mo δ M
            have a3 := f0 δ M
            have a4 := gh δ M
            refine ⟨zi (-3), δ, δ, ?_, ?_, I, rfl⟩
            · simp (disch := omega) only [F_Bs_join, ↓bnd_eq, bd2, bn2, Option.bind_some, Option.bind_none, cb, co, ↓bse ch, ↓bse ci, ↓bse cl, ↓reduceIte, inb, zl, zi_add, zi_sub, zi_mul, zi_neg, zi_le_t, zi_le_f, zi_lt_t, zi_lt_f, zi_eq_t, zi_eq_f, if_true, if_false, ite_true, ite_false, true_and, and_true, false_and, and_false, not_true_eq_false, not_false_eq_true, true_or, or_true, false_or, or_false, and_self, ge_iff_le, gt_iff_lt]
            · simp (disch := omega) only [F_M_join, ↓bnd_eq, bd2, bn2, Option.bind_some, Option.bind_none, a1, a2, a3, e, a4, ↓bse ml1, ↓reduceIte, inb, zl, zi_add, zi_sub, zi_mul, zi_neg, zi_le_t, zi_le_f, zi_lt_t, zi_lt_f, zi_eq_t, zi_eq_f, if_true, if_false, ite_true, ite_false, true_and, and_true, false_and, and_false, not_true_eq_false, not_false_eq_true, true_or, or_true, false_or, or_false, and_self, ge_iff_le, gt_iff_lt]
        · have a1 := mb δ M
          have a2 := mo δ M
          have a3 := f0 δ M
          have a4 := gh δ M
          refine ⟨zi (-3), δ, δ, ?_, ?_, I, rfl⟩
          · simp (disch := omega) only [F_Bs_join, ↓bnd_eq, bd2, bn2, Option.bind_some, Option.bind_none, cb, co, ↓bse ch, ↓bse ci, ↓reduceIte, inb, zl, zi_add, zi_sub, zi_mul, zi_neg, zi_le_t, zi_le_f, zi_lt_t, zi_lt_f, zi_eq_t, zi_eq_f, if_true, if_false, ite_true, ite_false, true_and, and_true, false_and, and_false, not_true_eq_false, not_false_eq_true, true_or, or_true, false_or, or_false, and_self, ge_iff_le, gt_iff_lt]
          · simp (disch := omega) only [F_M_join, ↓bnd_eq, bd2, bn2, Option.bind_some, Option.bind_none, a1, a2, a3, e, a4, ↓reduceIte, inb, zl, zi_add, zi_sub, zi_mul, zi_neg, zi_le_t, zi_le_f, zi_lt_t, zi_lt_f, zi_eq_t, zi_eq_f, if_true, if_false, ite_true, ite_false, true_and, and_true, false_and, and_false, not_true_eq_false, not_false_eq_true, true_or, or_true, false_or, or_false, and_self, ge_iff_le, gt_iff_lt]
      · rw [e, zl0] at ch
        rw [zl0] at e
        have a1 := mb δ M
        have a2 := mo δ M
        have a3 := f0 δ M
        refine ⟨zi (-1), δ, δ, ?_, ?_, I, rfl⟩
        · simp (disch := omega) only [F_Bs_join, ↓bnd_eq, bd2, bn2, Option.bind_some, Option.bind_none, cb, co, ↓bse ch, ↓reduceIte, inb, zl, zi_add, zi_sub, zi_mul, zi_neg, zi_le_t, zi_le_f, zi_lt_t, zi_lt_f, zi_eq_t, zi_eq_f, if_true, if_false, ite_true, ite_false, true_and, and_true, false_and, and_false, not_true_eq_false, not_false_eq_true, true_or, or_true, false_or, or_false, and_self, ge_iff_le, gt_iff_lt]
        · simp (disch := omega) only [F_M_join, ↓bnd_eq, bd2, bn2, Option.bind_some, Option.bind_none, a1, a2, a3, e, ↓reduceIte, inb, zl, zi_add, zi_sub, zi_mul, zi_neg, zi_le_t, zi_le_f, zi_lt_t, zi_lt_f, zi_eq_t, zi_eq_f, if_true, if_false, ite_true, ite_false, true_and, and_true, false_and, and_false, not_true_eq_false, not_false_eq_true, true_or, or_true, false_or, or_false, and_self, ge_iff_le, gt_iff_lt]
    · rw [if_neg qo, zl0] at co
      have a1 := mb δ M
      have a2 := mo δ M
      rw [if_neg qo, zl0] at a2
      refine ⟨zi (-1), δ, δ, ?_, ?_, I, rfl⟩
      · simp (disch := omega) only [F_Bs_join, ↓bnd_eq, bd2, bn2, Option.bind_some, Option.bind_none, cb, co, ↓reduceIte, inb, zl, zi_add, zi_sub, zi_mul, zi_neg, zi_le_t, zi_le_f, zi_lt_t, zi_lt_f, zi_eq_t, zi_eq_f, if_true, if_false, ite_true, ite_false, true_and, and_true, false_and, and_false, not_true_eq_false, not_false_eq_true, true_or, or_true, false_or, or_false, and_self, ge_iff_le, gt_iff_lt]
      · simp (disch := omega) only [F_M_join, ↓bnd_eq, bd2, bn2, Option.bind_some, Option.bind_none, a1, a2, ↓reduceIte, inb, zl, zi_add, zi_sub, zi_mul, zi_neg, zi_le_t, zi_le_f, zi_lt_t, zi_lt_f, zi_eq_t, zi_eq_f, if_true, if_false, ite_true, ite_false, true_and, and_true, false_and, and_false, not_true_eq_false, not_false_eq_true, true_or, or_true, false_or, or_false, and_self, ge_iff_le, gt_iff_lt]
  · rw [if_neg q, zl0] at cb
    have a1 := mb δ M
    rw [if_neg q, zl0] at a1
    refine ⟨zi (-1), δ, δ, ?_, ?_, I, rfl⟩
    · simp (disch := omega) only [F_Bs_join, ↓bnd_eq, bd2, bn2, Option.bind_some, Option.bind_none, cb, ↓reduceIte, inb, zl, zi_add, zi_sub, zi_mul, zi_neg, zi_le_t, zi_le_f, zi_lt_t, zi_lt_f, zi_eq_t, zi_eq_f, if_true, if_false, ite_true, ite_false, true_and, and_true, false_and, and_false, not_true_eq_false, not_false_eq_true, true_or, or_true, false_or, or_false, and_self, ge_iff_le, gt_iff_lt]
    · simp (disch := omega) only [F_M_join, ↓bnd_eq, bd2, bn2, Option.bind_some, Option.bind_none, a1, ↓reduceIte, inb, zl, zi_add, zi_sub, zi_mul, zi_neg, zi_le_t, zi_le_f, zi_lt_t, zi_lt_f, zi_eq_t, zi_eq_f, if_true, if_false, ite_true, ite_false, true_and, and_true, false_and, and_false, not_true_eq_false, not_false_eq_true, true_or, or_true, false_or, or_false, and_self, ge_iff_le, gt_iff_lt]
